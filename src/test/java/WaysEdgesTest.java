/** The edges of all ways, of what was SEEN and of two standings (promises 12 to 23). */
public final class WaysEdgesTest {
    private static final int BAD = GuestParties.BAD;
    private static final int STATE = GuestParties.STATE;
    private static final int FULL = GuestParties.FULL;
    private static final int NONE = GuestParties.NONE;
    private static final int LOW = Integer.MIN_VALUE;
    private static final int HIGH = Integer.MAX_VALUE;
    private static final int FACTOR = 1103515245;
    private static final int MORE = 12345;

    public static void main(String[] args) {
        manyZeroToEight();
        ranksFirstAndLast();
        nthFirstAndLast();
        drawsUpperBits();
        drawOfOneAndOfNone();
        lotIsWrapped();
        seenTenAtMost();
        forgetsAll();
        leftAllAndNone();
        seenOfEachPair();
        sureInAllOrNone();
        finerAndCoarserAtTheEnds();
        betweenFirstAndLast();
        fewestAtTheEnds();
        Due.finish();
    }

    // ---- all ways

    private static void manyZeroToEight() {
        for (int n = 1; n <= 8; n++) {
            GuestParties x = Texts.room("guests " + n + ";");
            Edges.takes("12 many", 0, 8, BAD, x::many);
            Due.is("12 all in one", x.many(1), 1);
            Due.is("12 all alone", x.many(n), 1);
            Due.is("12 more than guests", n < 8 ? x.many(n + 1) : 0, 0);
            int sum = 0;
            for (int parties = 1; parties <= 8; parties++) {
                sum += x.many(parties);
            }
            Due.is("12 of all", x.many(0), sum);
        }
        GuestParties none = Texts.room("guests 7;parties 8;");
        for (int parties = 0; parties <= 8; parties++) {
            Due.is("12 none", none.many(parties), 0);
        }
    }

    private static void ranksFirstAndLast() {
        int[] all = {1, 2, 5, 15, 52, 203, 877, 4140};
        for (int n = 1; n <= 8; n++) {
            Due.is("13 none ahead", Edges.standing("00000000".substring(0, n)).rank(), 0);
            Due.is("13 all others ahead", Edges.standing("01234567".substring(0, n)).rank(), all[n - 1] - 1);
        }
        // The first that differs counts, whatever is behind it.
        Due.is("13 the last of those that begin with 0, 0", Edges.standing("0012").rank(), 4);
        Due.is("13 the first of those that begin with 0, 1", Edges.standing("0100").rank(), 5);
        Due.is("13 one lawful", Texts.room("guests 8;parties 8;").rank(), 0);
        Due.is("13 NOW is not lawful", Texts.room("guests 8;parties 7;").rank(), NONE);
        Due.is("13 none is", Texts.room("guests 2;parties 8;").rank(), NONE);
    }

    private static void nthFirstAndLast() {
        int[] all = {1, 2, 5, 15, 52, 203, 877, 4140};
        for (int n = 1; n <= 8; n++) {
            GuestParties x = Texts.room("guests " + n + ";");
            int ways = all[n - 1];
            int last = n - 1;
            Due.is("14 the first", x.nth(0, last), 0);
            Due.is("14 the last", x.nth(ways - 1, last), last);
            Due.is("14 one beyond", x.nth(ways, last), -5);
            Due.is("14 far beyond", x.nth(HIGH, last), -5);
            Due.is("14 below", x.nth(-1, last), BAD);
            Edges.takes("14 g", 0, last, BAD, g -> x.nth(ways - 1, g));
            Due.is("14 BAD ahead of not so many", x.nth(ways, n), BAD);
            Due.is("14 BAD ahead of not so many", x.nth(HIGH, -1), BAD);
        }
        Due.is("14 none", Texts.room("guests 2;parties 3;").nth(0, 0), -5);
        Due.is("14 none, below", Texts.room("guests 2;parties 3;").nth(-1, 0), BAD);
        GuestParties one = Texts.room("guests 3;parties 1;");
        Due.is("14 one", one.nth(0, 2), 0);
        Due.is("14 one beyond one", one.nth(1, 2), -5);
    }

    /** What THE LOT must be, so that it goes on to this one. */
    private static int lotAhead(int lot) {
        int inverse = 1;
        for (int i = 0; i < 6; i++) {
            inverse *= 2 - FACTOR * inverse;
        }
        return (lot - MORE) * inverse;
    }

    private static void drawsTo(GuestParties x, int upper, int want) {
        for (int lower : new int[] {0, 0xffff}) {
            int lot = upper << 16 | lower;
            x.lot(lotAhead(lot));
            Due.is("15 upper bits " + upper, x.draw(), want);
            Due.is("15 rank of what was drawn", x.rank(), want);
            Due.is("15 lot has gone on", x.lot(1), lot);
        }
    }

    private static void drawsUpperBits() {
        GuestParties x = new GuestParties();
        drawsTo(x, 0, 0);
        drawsTo(x, 1, 1);
        drawsTo(x, 14, 14);
        drawsTo(x, 15, 0);
        drawsTo(x, 16, 1);
        drawsTo(x, 0x7fff, 0x7fff % 15);
        // The highest bit counts as one more bit, not as a sign.
        drawsTo(x, 0x8000, 0x8000 % 15);
        drawsTo(x, 0xffff, 0xffff % 15);
        drawsTo(x, 0xfffe, 0xfffe % 15);
        GuestParties eight = Texts.room("guests 8;");
        drawsTo(eight, 4139, 4139);
        drawsTo(eight, 4140, 0);
        drawsTo(eight, 0xffff, 0xffff % 4140);
    }

    private static void drawOfOneAndOfNone() {
        GuestParties one = Texts.room("guests 8;parties 1;");
        for (int i = 0; i < 5; i++) {
            Due.is("15 one is lawful", one.draw(), 0);
        }
        Edges.row("15 it becomes NOW", one, "00000000");
        int lot = 1;
        for (int i = 0; i < 5; i++) {
            lot = lot * FACTOR + MORE;
        }
        Due.is("15 the lot goes on", one.lot(1), lot);
        GuestParties none = Texts.room("guests 8;least 5;most 4;");
        Due.is("15 none is lawful", none.draw(), STATE);
        Due.is("15 the lot does not go on", none.lot(1), 1);
        Edges.row("15 NOW stays", none, "01234567");
        GuestParties single = Texts.room("guests 1;");
        Due.is("15 one guest", single.draw(), 0);
    }

    private static void lotIsWrapped() {
        GuestParties x = new GuestParties();
        int[] values = {0, 1, -1, 65535, 65536, -65536, HIGH, LOW, 2, -2};
        int was = 1;
        for (int value : values) {
            Due.is("16 what it was", x.lot(value), was);
            x.draw();
            was = (int) (value * (long) FACTOR + MORE);
        }
        Due.is("16 what it was", x.lot(0), was);
        Due.is("16 a draw is not needed", x.lot(5), 0);
        Due.is("16 alike", x.lot(5), 5);
    }

    // ---- seen

    private static void seenTenAtMost() {
        GuestParties x = Texts.room("guests 8;");
        Edges.takes("17 is", 0, 1, BAD, is -> x.saw(0, 7, is));
        Due.is("17 two are there", x.forget(), 2);
        Edges.takes("17 a", 1, 7, BAD, a -> x.saw(a, 0, 0));
        x.forget();
        Edges.takes("17 b", 0, 6, BAD, b -> x.saw(7, b, 0));
        x.forget();
        for (int i = 1; i <= 10; i++) {
            Due.is("17 alike", x.saw(7, 7, 1), BAD);
            Due.is("17 the " + i + "th", x.saw(0, 7, 1), i);
        }
        Due.is("17 the eleventh, told before", x.saw(0, 7, 1), FULL);
        Due.is("17 the eleventh, another", x.saw(1, 2, 0), FULL);
        Due.is("17 BAD ahead of FULL: alike", x.saw(7, 7, 1), BAD);
        Due.is("17 BAD ahead of FULL: no guest", x.saw(0, 8, 1), BAD);
        Due.is("17 BAD ahead of FULL: no guest", x.saw(-1, 0, 1), BAD);
        Due.is("17 BAD ahead of FULL: is", x.saw(0, 1, 2), BAD);
        Due.is("17 ten", x.count(1), 10);
        Due.is("17 the eleventh does not count", x.left(), 877);
        Due.is("17 one guest can't be seen with another", Texts.room("guests 1;").saw(0, 0, 0), BAD);
    }

    private static void forgetsAll() {
        GuestParties x = new GuestParties();
        Due.is("18 nothing", x.forget(), 0);
        for (int i = 0; i < 10; i++) {
            x.saw(0, 1, 1);
        }
        Due.is("18 ten", x.forget(), 10);
        Due.is("18 none", x.forget(), 0);
        for (int i = 1; i <= 10; i++) {
            Due.is("17 ten again", x.saw(0, 1, 0), i);
        }
        Due.is("17 and no more", x.saw(0, 1, 0), FULL);
        Due.is("19 what was forgotten does not count", x.left(), 10);
    }

    private static void leftAllAndNone() {
        GuestParties x = Texts.room("guests 8;");
        Due.is("19 all", x.left(), 4140);
        for (int g = 1; g < 8; g++) {
            x.saw(0, g, 1);
        }
        Due.is("19 one", x.left(), 1);
        x.saw(6, 7, 1);
        Due.is("19 the same one", x.left(), 1);
        x.saw(6, 7, 0);
        Due.is("19 none", x.left(), 0);
        Due.is("19 none is lawful", Texts.room("guests 2;parties 3;").left(), 0);
        Due.is("19 one guest", Texts.room("guests 1;").left(), 1);
        // The tenth that was seen counts as the first does.
        GuestParties ten = new GuestParties();
        for (int i = 0; i < 9; i++) {
            ten.saw(0, 1, 1);
        }
        ten.saw(2, 3, 1);
        Due.is("19 the tenth", ten.left(), 2);
    }

    private static void seenOfEachPair() {
        for (int is = 0; is <= 1; is++) {
            GuestParties x = Texts.room("guests 8;");
            for (int a = 0; a < 8; a++) {
                for (int b = 0; b < 8; b++) {
                    if (a != b) {
                        x.saw(a, b, is);
                        Due.is("19 seen " + a + " " + b, x.left(), is == 1 ? 877 : 4140 - 877);
                        Due.is("20 seen " + a + " " + b, x.sure(a, b), is);
                        Due.is("20 turned", x.sure(b, a), is);
                        x.forget();
                    }
                }
            }
        }
    }

    private static void sureInAllOrNone() {
        GuestParties x = Texts.room("guests 3;");
        Due.is("20 in some just", x.sure(0, 2), NONE);
        x.saw(0, 1, 1);
        Due.is("20 in all", x.sure(1, 0), 1);
        Due.is("20 in one of two", x.sure(0, 2), NONE);
        x.saw(1, 2, 0);
        Due.is("20 in none", x.sure(0, 2), 0);
        Due.is("20 in the one that is left", x.sure(0, 1), 1);
        x.saw(0, 2, 1);
        Due.is("20 none is left", x.sure(0, 1), NONE);
        Due.is("20 none is left", x.sure(0, 2), NONE);
        Due.is("20 BAD, even so", x.sure(1, 1), BAD);
        Due.is("20 BAD, even so", x.sure(0, 3), BAD);
        Due.is("20 BAD, even so", x.sure(-1, 0), BAD);
        GuestParties eight = Texts.room("guests 8;together 0 7;apart 6 7;");
        Edges.takes("20 a", 1, 7, BAD, a -> eight.sure(a, 0));
        Edges.takes("20 b", 0, 6, BAD, b -> eight.sure(7, b));
        Due.is("20 first and last", eight.sure(0, 7), 1);
        Due.is("20 the last two", eight.sure(6, 7), 0);
        GuestParties none = Texts.room("guests 2;parties 3;");
        Due.is("20 none is lawful", none.sure(0, 1), NONE);
        Due.is("20 one guest", Texts.room("guests 1;").sure(0, 0), BAD);
        // All but the last one, all but the first one.
        Due.is("20 not in the last", Texts.room("guests 2;").sure(0, 1), NONE);
        GuestParties two = Texts.room("guests 3;parties 2;together 0 1;");
        Due.is("20 in the only one", two.sure(0, 2), 0);
    }

    // ---- two standings

    private static GuestParties withImages(String zero, String one, String now) {
        GuestParties x = Edges.standing(zero);
        x.keep(0);
        Texts.stand(x, one);
        x.keep(1);
        return Texts.stand(x, now);
    }

    private static void meets(String now, String image, String finer, String coarser) {
        GuestParties x = withImages(image, now, now);
        for (int g = 0; g < now.length(); g++) {
            String what = now + " and " + image + " of " + g;
            Due.is("21 finer " + what, x.two(0, 0, g), finer.charAt(g) - '0');
            Due.is("21 coarser " + what, x.two(0, 1, g), coarser.charAt(g) - '0');
            Due.is("21 finer of alike " + what, x.two(1, 0, g), now.charAt(g) - '0');
            Due.is("21 coarser of alike " + what, x.two(1, 1, g), now.charAt(g) - '0');
        }
    }

    private static void finerAndCoarserAtTheEnds() {
        meets("0", "0", "0", "0");
        meets("01012323", "01234567", "01234567", "01012323");
        meets("01234567", "01012323", "01234567", "01012323");
        meets("01012323", "00000000", "01012323", "00000000");
        meets("00000000", "01012323", "01012323", "00000000");
        meets("00112233", "01122330", "01234567", "00000000");
        // By steps all the way from the first to the last one.
        meets("00112233", "01122334", "01234567", "00000000");
        meets("01233210", "01234567", "01234567", "01233210");
        meets("01102332", "01233214", "01234567", "01100110");
        meets("0012", "0122", "0123", "0011");
        GuestParties x = withImages("00112233", "01234567", "01234567");
        Edges.takes("21 image", 0, 1, BAD, image -> x.two(image, 0, 7));
        Edges.takes("21 what", 0, 1, BAD, what -> x.two(0, what, 7));
        Edges.takes("21 g", 0, 7, BAD, g -> x.two(1, 1, g));
        GuestParties none = Texts.room("guests 3;");
        Due.is("21 none kept", none.two(0, 0, 2), STATE);
        Due.is("21 BAD ahead of STATE: guest", none.two(0, 0, 3), BAD);
        Due.is("21 BAD ahead of STATE: what", none.two(1, 2, 0), BAD);
        none.keep(1);
        Due.is("21 the other is kept", none.two(0, 0, 2), STATE);
        Due.is("21 this one is", none.two(1, 0, 2), 2);
    }

    private static void betweenFirstAndLast() {
        String[] alone = {"0", "01", "012", "0123", "01234", "012345", "0123456", "01234567"};
        int[] all = {1, 2, 5, 15, 52, 203, 877, 4140};
        for (int n = 1; n <= 8; n++) {
            String together = "00000000".substring(0, n);
            GuestParties x = withImages(together, alone[n - 1], alone[n - 1]);
            Due.is("22 all", x.between(0), all[n - 1]);
            Due.is("22 alike", x.between(1), 1);
            Texts.stand(x, together);
            Due.is("22 alike", x.between(0), 1);
            Due.is("22 all, turned", x.between(1), all[n - 1]);
        }
        Due.is("22 two", withImages("00000001", "01234567", "00000000").between(0), 2);
        Due.is("22 halves", withImages("00001111", "01234567", "01234567").between(0), 225);
        Due.is("22 pairs", withImages("00112233", "01234567", "01234567").between(0), 16);
        GuestParties x = withImages("00112233", "01234567", "01234567");
        Edges.takes("22 image", 0, 1, BAD, x::between);
        Due.is("22 none kept", new GuestParties().between(0), STATE);
        Due.is("22 none kept", new GuestParties().between(1), STATE);
        GuestParties none = Texts.room("guests 3;parties 8;");
        none.keep(0);
        Texts.stand(none, "000");
        Due.is("22 lawful or not", none.between(0), 5);
    }

    private static void fewestAtTheEnds() {
        for (int n = 1; n <= 8; n++) {
            String together = "00000000".substring(0, n);
            String alone = "01234567".substring(0, n);
            Due.is("23 alike", withImages(alone, together, alone).fewest(0), 0);
            Due.is("23 all to one", withImages(together, alone, alone).fewest(0), n - 1);
            Due.is("23 all from one", withImages(alone, together, together).fewest(0), n - 1);
        }
        Due.is("23 one goes", withImages("00001111", "00011111", "00011111").fewest(0), 1);
        Due.is("23 one goes alone", withImages("00000001", "00000000", "00000000").fewest(0), 1);
        Due.is("23 one goes to all", withImages("00000000", "01111111", "01111111").fewest(0), 1);
        // Two parties change their guests: their numbers do not count.
        Due.is("23 sets of guests", withImages("01111111", "00000001", "00000001").fewest(0), 2);
        Due.is("23 two by two", withImages("01230123", "00112233", "00112233").fewest(0), 4);
        GuestParties x = withImages("00112233", "01234567", "01234567");
        Edges.takes("23 image", 0, 1, BAD, x::fewest);
        Due.is("23 none kept", new GuestParties().fewest(0), STATE);
        Due.is("23 none kept", new GuestParties().fewest(1), STATE);
    }
}
