/** The edges of worths, leaving, evenings, kinds and images (promises 24 to 29, and 31). */
public final class EveningEdgesTest {
    private static final int BAD = GuestParties.BAD;
    private static final int STATE = GuestParties.STATE;
    private static final int FULL = GuestParties.FULL;
    private static final int NO = GuestParties.NO;
    private static final int FACTOR = 1103515245;
    private static final int MORE = 12345;

    public static void main(String[] args) {
        bestMinusOneToLast();
        bestOfSeveral();
        bestBelowNothing();
        bestOfNone();
        leavingMinusOneToLast();
        leavingIfThatIsMore();
        leavingOfSeveral();
        leavingRoundByRound();
        leavingIgnoresLaws();
        eveningOneToNinetyNine();
        eveningAloneOrNot();
        eveningItselfAlone();
        kindsZeroToFive();
        ratesBelowNothing();
        traceOfBodies();
        imagesZeroAndOne();
        imagesKeepThatAlone();
        imagesKeepTenSeen();
        Due.finish();
    }

    // ---- worths

    private static void bestMinusOneToLast() {
        for (int n = 1; n <= 8; n++) {
            GuestParties x = Texts.room("guests " + n + ";");
            Edges.takes("24 best", -1, n - 1, NO, x::best);
        }
    }

    private static void best(String laws, int worth, String row) {
        GuestParties x = Texts.room("guests " + row.length() + ";" + laws);
        Due.is("24 worth by " + laws, x.best(-1), worth);
        for (int g = 0; g < row.length(); g++) {
            Due.is("24 party of " + g + " by " + laws, x.best(g), row.charAt(g) - '0');
        }
    }

    private static void bestOfSeveral() {
        best("", 0, "00000000");
        best("cost 0 1 1;", 0, "01000000");
        best("cost 6 7 1;", 0, "00000001");
        best("worth 0 1 1;", 1, "00000000");
        best("parties 8;", 0, "01234567");
        best("parties 7;", 0, "00123456");
        best("worth 0 2 1;worth 1 2 1;apart 0 1;", 1, "010");
        best("worth 0 2 1;worth 1 2 2;apart 0 1;", 2, "011");
        best("worth 0 2 2;worth 1 2 1;apart 0 1;", 2, "010");
        best("worth 0 2 9;worth 1 3 9;ring;apart 0 1;", 9, "0100");
    }

    private static void bestBelowNothing() {
        best("together 0 1;cost 0 1 9;", -9, "00");
        best("together 0 1;cost 0 1 1;", -1, "00");
        best("together 0 1;cost 0 1 2;", -2, "00");
        best("parties 1;cost 0 1 9;cost 1 2 9;cost 0 2 9;", -27, "000");
        best("parties 2;cost 0 1 9;cost 1 2 8;cost 0 2 9;", -8, "011");
    }

    private static void bestOfNone() {
        GuestParties x = Texts.room("guests 2;parties 3;worth 0 1 9;");
        for (int g = -1; g < 2; g++) {
            Due.is("24 none is lawful", x.best(g), NO);
        }
        Texts.tell(x, "guests 2;parties 2;worth 0 1 9;");
        Due.is("24 one is lawful", x.best(-1), 0);
        Due.is("24 what was before does not count", x.best(1), 1);
        // What was SEEN does not take from the lawful ones.
        x.saw(0, 1, 1);
        Due.is("24 none is left", x.left(), 0);
        Due.is("24 but lawful", x.best(-1), 0);
    }

    // ---- leaving

    private static void leaves(String told, String from, int goings, String row) {
        GuestParties x = Texts.stand(Texts.room("guests " + from.length() + ";" + told), from);
        Due.is("25 goings of " + from + " by " + told, x.leaving(-1), goings);
        for (int g = 0; g < row.length(); g++) {
            Due.is("25 party of " + g + ", " + from + " by " + told, x.leaving(g), row.charAt(g) - '0');
        }
        Due.holds("25 NOW stays", Texts.row(x).equals(from));
    }

    private static void leavingMinusOneToLast() {
        for (int n = 1; n <= 8; n++) {
            GuestParties x = Texts.room("guests " + n + ";");
            Edges.takes("25 leaving", -1, n - 1, BAD, x::leaving);
            Due.is("25 nobody goes", x.leaving(-1), 0);
        }
    }

    private static void leavingIfThatIsMore() {
        leaves("", "01", 0, "01");
        leaves("worth 0 1 1;", "01", 1, "00");
        leaves("worth 0 1 1;", "00", 0, "00");
        leaves("cost 0 1 1;", "00", 1, "01");
        leaves("cost 0 1 1;", "01", 0, "01");
        // Nothing is as much as alone, there or here.
        leaves("", "00", 0, "00");
        leaves("worth 0 1 5;cost 0 2 5;", "000", 1, "001");
        leaves("worth 0 1 5;cost 0 2 6;", "000", 2, "001");
        leaves("worth 0 1 5;worth 0 2 5;", "001", 1, "000");
        leaves("worth 0 1 5;worth 0 2 5;cost 1 2 5;", "001", 0, "001");
        leaves("worth 0 1 5;worth 0 2 6;cost 1 2 9;", "001", 1, "010");
    }

    private static void leavingOfSeveral() {
        // Alone (0) comes ahead of the party of 2 (0, too).
        leaves("cost 0 1 3;", "001", 1, "012");
        leaves("cost 0 1 3;worth 0 2 1;", "001", 1, "010");
        // Of two parties that are worth the same the least number.
        leaves("worth 0 1 3;worth 0 2 3;cost 1 2 9;", "012", 1, "001");
        leaves("worth 0 2 3;worth 0 3 3;cost 2 3 9;", "0123", 1, "0102");
        // Guest 3 has as much where it is, and stays.
        leaves("worth 3 0 3;worth 3 2 3;cost 0 2 9;", "0123", 1, "0120");
    }

    private static void leavingRoundByRound() {
        // All but one do not go, one behind another; then the last one does, and then the first.
        leaves("worth 0 2 1;cost 0 3 5;cost 1 2 9;worth 1 3 2;worth 2 3 1;", "0122", 2, "0101");
        leaves("worth 5 6 9;worth 5 7 1;", "01234556", 1, "01234555");
        leaves("worth 6 7 1;cost 0 7 1;", "01234560", 2, "01234566");
        // Each leaves the one before it, and the first two meet again in the next round.
        leaves("worth 0 1 1;worth 1 2 2;worth 2 3 3;cost 0 2 9;cost 1 3 9;", "0123", 4, "0011");
    }

    private static void leavingIgnoresLaws() {
        leaves("apart 0 1;worth 0 1 9;", "01", 1, "00");
        leaves("together 0 1;cost 0 1 9;", "00", 1, "01");
        leaves("parties 8;worth 0 1 9;", "01", 1, "00");
    }

    // ---- evenings

    private static void eveningOneToNinetyNine() {
        GuestParties x = new GuestParties();
        Edges.takes("26 evening", 1, 99, BAD, x::evening);
        for (int steps : new int[] {1, 2, 98, 99}) {
            x.lot(1);
            x.evening(steps);
            int lot = 1;
            for (int i = 0; i < 2 * steps; i++) {
                lot = next(lot);
            }
            Due.is("26 two draws each step", x.lot(1), lot);
        }
        Due.is("26 one guest is always alone", Texts.room("guests 1;").evening(99), 99);
        Due.is("26 one guest is always alone", Texts.room("guests 1;").evening(1), 1);
    }

    /** THE LOT from which the next two DRAWS are these, left over by n guests. */
    private static int lotOf(int n, int g, int to) {
        int lot = 0;
        while (drawn(next(lot), n) != g || drawn(next(next(lot)), n) != to) {
            lot += 65537;
        }
        return lot;
    }

    private static int next(int lot) {
        return lot * FACTOR + MORE;
    }

    private static int drawn(int lot, int bound) {
        return (lot >>> 16) % bound;
    }

    private static void step(String from, int g, int to, int want, String row) {
        GuestParties x = Edges.standing(from);
        x.lot(lotOf(from.length(), g, to));
        Due.is("26 " + from + ": " + g + " to " + to, x.evening(1), want);
        Edges.row("26 " + from + ": " + g + " to " + to, x, row);
    }

    private static void eveningAloneOrNot() {
        step("01", 0, 1, 0, "00");
        step("01", 1, 0, 0, "00");
        step("001", 2, 0, 0, "000");
        step("0012", 3, 2, 0, "0011");
        step("0011", 0, 2, 1, "0100");
        step("00112233", 7, 0, 1, "00112230");
        step("00112223", 7, 0, 0, "00112220");
        // Behind the step, not ahead of it.
        step("00000001", 7, 6, 0, "00000000");
        step("00000000", 7, 7, 1, "00000001");
    }

    private static void eveningItselfAlone() {
        step("00", 0, 0, 1, "01");
        step("00", 1, 1, 1, "01");
        step("01", 1, 1, 1, "01");
        // It is there: the step is one all the same.
        step("00", 0, 1, 0, "00");
        step("0011", 3, 2, 0, "0011");
        step("00000000", 0, 0, 1, "01111111");
    }

    // ---- kinds

    private static void kindsZeroToFive() {
        for (int n = 1; n <= 8; n++) {
            GuestParties x = Texts.room("guests " + n + ";");
            int last = n - 1;
            Edges.takes("27 kind", 0, 5, NO, kind -> x.rate(kind, last));
            Edges.takes("27 guest", 0, last, NO, g -> x.rate(5, g));
        }
    }

    private static void ratesBelowNothing() {
        GuestParties x = Texts.room("guests 8;hat 0 5;cost 0 1 9;cost 0 2 9;worth 0 7 9;");
        Due.is("27 listener", x.rate(2, 0), -4);
        Due.is("27 dog", x.rate(4, 0), -4);
        Due.is("27 dog of the last party", x.rate(4, 7), 8);
        Due.is("27 hostess of eight", x.rate(5, 0), 9);
        Due.is("27 talker alone", x.rate(1, 0), 1);
        Texts.stand(x, "00011111");
        Due.is("27 guest", x.rate(0, 0), 3);
        Due.is("27 talker", x.rate(1, 0), -15);
        Due.is("27 singer", x.rate(3, 0), -30);
        Due.is("27 only those of its party", x.rate(1, 7), 5);
        Texts.stand(x, "00000000");
        Due.is("27 guest of all", x.rate(0, 0), 8);
        Due.is("27 talker of all", x.rate(1, 0), -1);
        Due.is("27 hostess of one party", x.rate(5, 7), 9);
    }

    private static void traceOfBodies() {
        int[] bodies = {1, 11, 101, 1011, 10101, 100001};
        for (int kind = 0; kind < 6; kind++) {
            GuestParties x = new GuestParties();
            x.rate(kind, 0);
            Due.is("31 asked once by " + kind, x.trace(), bodies[kind]);
            x.rate(kind, 3);
            Due.is("31 asked twice by " + kind, x.trace(), 2 * bodies[kind]);
            x.rate(kind, 4);
            x.rate(6, 0);
            x.rate(-1, 0);
            Due.is("31 refused", x.trace(), 2 * bodies[kind]);
        }
    }

    // ---- images

    private static void imagesZeroAndOne() {
        GuestParties x = Texts.room("guests 8;");
        Edges.takes("28 keep", 0, 1, BAD, x::keep);
        Edges.takes("29 back", 0, 1, BAD, x::back);
        Due.is("28 how many", x.keep(0), 8);
        Texts.stand(x, "00000000");
        Due.is("28 how many", x.keep(1), 1);
        Due.is("29 the first", x.back(0), 8);
        Edges.row("29 the first", x, "01234567");
        Due.is("29 the other", x.back(1), 1);
        Edges.row("29 the other", x, "00000000");
        Due.is("28 kept anew", x.keep(0), 1);
        Texts.stand(x, "01111111");
        Due.is("29 as kept last", x.back(0), 1);
        GuestParties one = Texts.room("guests 1;");
        Due.is("29 none kept", one.back(0), STATE);
        Due.is("28 one", one.keep(0), 1);
        Due.is("29 the other is not", one.back(1), STATE);
        Due.is("29 this is", one.back(0), 1);
    }

    private static void imagesKeepThatAlone() {
        GuestParties x = Texts.room("guests 3;most 2;worth 0 1 4;");
        x.lot(55);
        x.saw(0, 1, 1);
        x.keep(1);
        x.lot(66);
        x.saw(1, 2, 0);
        x.join(0, 2);
        x.rate(5, 0);
        Texts.type(x, "ring;");
        x.keep(0);
        Due.is("29", x.back(1), 3);
        Due.is("29 lot", x.lot(7), 55);
        Due.is("29 seen", x.count(1), 1);
        Edges.row("29 now", x, "012");
        Due.is("29 not the text", x.count(4), 5);
        Due.is("29 not the trace", x.trace(), 100001);
        Due.is("29 not the laws", x.law(2), 2);
        Due.is("29 not the worths", x.pair(0, 1, 2), 4);
        Due.is("29 not the other image", x.back(0), 2);
        Due.is("29 the other's lot", x.lot(8), 66);
        Due.is("29 the other's seen", x.count(1), 2);
        Edges.row("29 the other's now", x, "010");
        x.forget();
        x.goes(0, 0);
        x.lot(9);
        Due.is("29 once more", x.back(0), 2);
        Due.is("29 seen once more", x.count(1), 2);
        Due.is("29 lot once more", x.lot(8), 66);
    }

    private static void imagesKeepTenSeen() {
        GuestParties x = Texts.room("guests 5;");
        for (int i = 0; i < 9; i++) {
            x.saw(0, 1, 1);
        }
        x.saw(3, 4, 0);
        x.keep(0);
        x.forget();
        x.keep(1);
        x.saw(0, 1, 0);
        x.back(0);
        Due.is("29 ten", x.count(1), 10);
        Due.is("29 the tenth, too", x.left(), 10);
        Due.is("17 no more", x.saw(0, 1, 1), FULL);
        x.back(1);
        Due.is("29 none", x.count(1), 0);
        Due.is("29 none binds", x.left(), 52);
        Due.is("17 the first again", x.saw(0, 1, 1), 1);
        x.back(1);
        Due.is("29 what was seen behind keep() is not in it", x.count(1), 0);
    }
}
