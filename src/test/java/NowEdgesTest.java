/** The edges of a new object, of what was told, of NOW and of the LAWS (promises 1, 4 to 11 and 30). */
public final class NowEdgesTest {
    private static final int BAD = GuestParties.BAD;
    private static final int STATE = GuestParties.STATE;
    private static final int NONE = GuestParties.NONE;
    private static final int NO = GuestParties.NO;
    private static final int LOW = Integer.MIN_VALUE;
    private static final String ALL_TOLD = "guests 8;hat 0 5;hat 7 4;parties 3;least 2;most 4;unlike;ring;together 0 1;"
            + "apart 6 7;worth 0 7 9;cost 1 2 9;";

    public static void main(String[] args) {
        atFirst();
        lawZeroToFour();
        pairsOfGuests();
        countZeroToFour();
        readAnew();
        readAnewAsIfNew();
        readAnewAllAlone();
        guestsZeroToLast();
        partiesAreNumberedByLeastGuests();
        goesToGuests();
        goesWhereItIsNot();
        joinsOfParties();
        partsSomeButNotAll();
        nowZeroToThree();
        nowAtItsGreatest();
        partiesJustSoMany();
        leastAndMost();
        togetherAndApart();
        unlikeHats();
        ringAcross();
        Due.finish();
    }

    // ---- what was told

    private static void atFirst() {
        GuestParties x = new GuestParties();
        Due.is("1 four guests", x.count(0), 4);
        Edges.row("1 all alone", x, "0123");
        Due.is("1 no laws: all ways", x.many(0), 15);
        Due.is("1 worth", x.best(-1), 0);
        Due.is("1 nothing seen", x.left(), 15);
        Due.is("1 no text", x.clear(), 0);
        Due.is("1 no image 0", x.back(0), STATE);
        Due.is("1 no image 1", x.back(1), STATE);
        Due.is("1 trace", x.trace(), 0);
        for (int g = 0; g < 4; g++) {
            Due.is("1 hat", x.rate(2, g), 1);
        }
        Due.is("1 lot", x.lot(0), 1);
    }

    private static void lawZeroToFour() {
        GuestParties x = new GuestParties();
        Edges.takes("5 law", 0, 4, BAD, x::law);
        for (int what = 0; what < 5; what++) {
            Due.is("5 not told", x.law(what), 0);
        }
        Texts.tell(x, "parties 8;least 8;most 8;unlike;ring;");
        int[] told = {8, 8, 8, 1, 1};
        for (int what = 0; what < 5; what++) {
            Due.is("5 told " + what, x.law(what), told[what]);
        }
    }

    private static void pairsOfGuests() {
        for (int n = 2; n <= 8; n++) {
            GuestParties x = Texts.room("guests " + n + ";together 0 1;apart 0 1;cost 0 1 9;");
            int last = n - 1;
            Edges.takes("6 a of " + n, 1, last, NO, a -> x.pair(a, 0, 0));
            Edges.takes("6 b of " + n, 0, last - 1, NO, b -> x.pair(last, b, 1));
            Edges.takes("6 what", 0, 2, NO, what -> x.pair(0, 1, what));
            for (int g = 0; g < n; g++) {
                Due.is("6 alike", x.pair(g, g, 0), NO);
                Due.is("6 alike", x.pair(g, g, 2), NO);
            }
            Due.is("6 the last and one beyond", x.pair(last, n, 2), NO);
            Due.is("6 one beyond and the last", x.pair(n, last, 2), NO);
            Due.is("6 a below", x.pair(-1, last, 2), NO);
            Due.is("6 b below", x.pair(last, -1, 2), NO);
            Due.is("6 worth below nothing is not NO", x.pair(1, 0, 2), -9);
            Due.is("6 together", x.pair(0, 1, 0), 1);
            Due.is("6 apart", x.pair(1, 0, 1), 1);
            Due.is("6 not together", n > 2 ? x.pair(0, last, 0) : 0, 0);
            Due.is("6 not apart", n > 2 ? x.pair(last, 1, 1) : 0, 0);
        }
        Due.is("6 one guest has no pair", Texts.room("guests 1;").pair(0, 0, 0), NO);
        Due.is("6 one guest has no pair", Texts.room("guests 1;").pair(0, 1, 0), NO);
    }

    private static void countZeroToFour() {
        GuestParties x = new GuestParties();
        Edges.takes("30 count", 0, 4, BAD, x::count);
        Due.is("30 none seen", x.count(1), 0);
        Due.is("30 none together", x.count(2), 0);
        Due.is("30 none apart", x.count(3), 0);
        Due.is("30 no bytes", x.count(4), 0);
        StringBuilder all = new StringBuilder("guests 7;");
        for (int a = 0; a < 7; a++) {
            for (int b = a + 1; b < 7; b++) {
                all.append("together").append(a).append(' ').append(b).append(';');
            }
        }
        Due.is("30 all pairs of seven", Texts.tell(x, all.toString()), 22);
        Due.is("30 together", x.count(2), 21);
        Due.is("30 none apart", x.count(3), 0);
        Texts.tell(x, "guests 2;apart 0 1;apart 1 0;together 0 1;");
        Due.is("30 a pair told twice is one", x.count(3), 1);
        Due.is("30 told both ways", x.count(2), 1);
        Texts.type(x, " ".repeat(300));
        Due.is("30 all bytes", x.count(4), 300);
        for (int i = 0; i < 10; i++) {
            x.saw(0, 1, 1);
        }
        Due.is("30 all seen", x.count(1), 10);
    }

    /** Nothing that was told before stays, be it read or not, once or several times. */
    private static void readAnewAsIfNew() {
        for (String last : new String[] {"", "guests 8;", "guests 8;ring;"}) {
            String due = Looks.of(Texts.room(last));
            for (int times = 1; times <= 3; times++) {
                GuestParties x = Texts.room("guests 7;");
                Due.is("4 all ways of seven", x.many(0), 877);
                for (int i = 0; i < times; i++) {
                    Due.is("4 all", Texts.tell(x, ALL_TOLD), 12);
                    Due.is("4 six have one hat: none is lawful", x.many(0), 0);
                }
                Texts.tell(x, last);
                Due.same("4 anew by '" + last + "'", Looks.of(x), due);
            }
            GuestParties x = new GuestParties();
            Due.is("4 a FAULT at the end", Texts.tell(x, ALL_TOLD + "!"), -10 - ALL_TOLD.length());
            Texts.tell(x, last);
            Due.same("4 behind a FAULT by '" + last + "'", Looks.of(x), due);
        }
    }

    /** Whoever went wherever: all are alone at first. */
    private static void readAnewAllAlone() {
        for (int g = 0; g < 8; g++) {
            for (int to = 0; to < 8; to++) {
                GuestParties x = Texts.room("guests 8;parties 4;");
                x.draw();
                x.goes(g, to);
                Due.is("4 anew", Texts.tell(x, "guests 8;"), 1);
                Edges.row("4 all alone behind " + g + " to " + to, x, "01234567");
            }
        }
    }

    private static void readAnew() {
        GuestParties x = Texts.room(ALL_TOLD);
        x.join(0, 7);
        x.saw(0, 1, 1);
        x.keep(0);
        x.keep(1);
        x.lot(-5);
        x.rate(4, 7);
        Due.is("4 anew", Texts.tell(x, "guests 8;"), 1);
        Edges.row("4 NOW is as at first", x, "01234567");
        Due.is("4 nothing was seen", x.count(1), 0);
        Due.is("4 nothing was seen", x.left(), 4140);
        Due.is("4 image 0 is gone", x.fewest(0), STATE);
        Due.is("4 image 1 is gone", x.back(1), STATE);
        Due.is("4 image 1 is gone", x.two(1, 0, 0), STATE);
        Due.is("4 the hats are gone", x.rate(2, 0), 1);
        Due.is("4 the worths are gone", x.pair(0, 7, 2), 0);
        Due.is("4 together is gone", x.pair(0, 1, 0), 0);
        Due.is("4 apart is gone", x.pair(6, 7, 1), 0);
        for (int what = 0; what < 5; what++) {
            Due.is("4 the laws are gone", x.law(what), 0);
        }
        Due.is("4 the lot stays", x.lot(1), -5);
        Due.is("31 the trace stays", x.trace(), 10101 + 101);
        Due.is("12 all are lawful", x.many(0), 4140);
    }

    // ---- now

    private static void guestsZeroToLast() {
        for (int n = 1; n <= 8; n++) {
            GuestParties x = Texts.room("guests " + n + ";");
            Edges.takes("7 party of " + n, 0, n - 1, BAD, x::party);
            for (int g = 0; g < n; g++) {
                Due.is("7 all alone at first", x.party(g), g);
            }
        }
    }

    private static void partiesAreNumberedByLeastGuests() {
        Edges.row("7", Edges.standing("01234567"), "01234567");
        Edges.row("7", Edges.standing("00000000"), "00000000");
        GuestParties x = Edges.standing("01010101");
        x.goes(0, 0);
        Edges.row("7 the least of the first party leaves", x, "01212121");
        x.goes(1, 0);
        Edges.row("7 the least of the second goes to the first", x, "00121212");
        x.goes(0, 7);
        Edges.row("7 the numbers change places", x, "01202020");
    }

    private static void goesToGuests() {
        for (int n = 2; n <= 8; n++) {
            GuestParties x = Texts.room("guests " + n + ";");
            int last = n - 1;
            Due.is("8 the last to 0", x.goes(last, 0), 0);
            Due.is("8 the last alone", x.goes(last, last), last);
            Due.is("8 0 to the last", x.goes(0, last), 0);
            Due.is("8 0 alone", x.goes(0, 0), 0);
            Edges.takes("8 g", 0, last, BAD, g -> x.goes(g, last));
            Edges.takes("8 to", 0, last, BAD, to -> x.goes(0, to));
            Due.is("8 one beyond", x.goes(n, 0), BAD);
            Due.is("8 to one beyond", x.goes(0, n), BAD);
            Due.is("8 one below", x.goes(-1, 0), BAD);
            Due.is("8 to one below", x.goes(0, -1), BAD);
        }
        Due.is("8 one guest is alone", Texts.room("guests 1;").goes(0, 0), STATE);
        Due.is("8 one guest can't go", Texts.room("guests 1;").goes(0, 1), BAD);
    }

    private static void goesWhereItIsNot() {
        GuestParties x = Edges.standing("0011");
        Due.is("8 is there", x.goes(0, 1), STATE);
        Due.is("8 is there", x.goes(3, 2), STATE);
        Due.is("8 BAD ahead of STATE", x.goes(4, 4), BAD);
        Due.is("8 alone: the party it is in then", x.goes(1, 1), 1);
        Edges.row("8 alone", x, "0122");
        Due.is("8 is alone", x.goes(1, 1), STATE);
        Due.is("8 whom it left is alone, too", x.goes(0, 0), STATE);
        Due.is("8 back again", x.goes(1, 0), 0);
        Due.is("8 a party that nobody is in is gone", x.now(0), 2);
        Due.is("8 the last one of all", x.goes(2, 2), 1);
        Due.is("8 the last one of all", x.goes(3, 3), STATE);
        Due.is("8 all in one", Edges.standing("00000001").goes(7, 0), 0);
        Due.is("8 none else", Edges.standing("00000000").goes(7, 0), STATE);
        Due.is("8 out of all", Edges.standing("00000000").goes(0, 0), 0);
        Due.is("8 out of all", Edges.standing("00000000").goes(7, 7), 1);
    }

    private static void joinsOfParties() {
        GuestParties x = Edges.standing("01234567");
        for (int parties = 8; parties > 1; parties--) {
            int last = parties - 1;
            Due.is("9 no such", x.join(0, parties), BAD);
            Due.is("9 no such", x.join(parties, 0), BAD);
            Due.is("9 below", x.join(-1, last), BAD);
            Due.is("9 below", x.join(last, -1), BAD);
            Due.is("9 alike", x.join(0, 0), BAD);
            Due.is("9 alike", x.join(last, last), BAD);
            Due.is("9 first and last", parties % 2 == 0 ? x.join(0, last) : x.join(last, 0), last);
        }
        Due.is("9 one party can't join", x.join(0, 0), BAD);
        Due.is("9 no other one", x.join(0, 1), BAD);
        Edges.row("9 all", x, "00000000");
        GuestParties y = Edges.standing("01234567");
        Due.is("9 the last two", y.join(7, 6), 7);
        Edges.row("9 the last two", y, "01234566");
        Due.is("9 BAD even where alike and no such", y.join(7, 7), BAD);
    }

    private static void partsSomeButNotAll() {
        for (int n = 2; n <= 8; n++) {
            int whole = (1 << n) - 1;
            String all = "00000000".substring(0, n);
            Due.is("10 none", Edges.standing(all).part(0, 0), STATE);
            Due.is("10 one", Edges.standing(all).part(0, 1), 2);
            Due.is("10 the last one", Edges.standing(all).part(0, 1 << n - 1), 2);
            Due.is("10 all but one", Edges.standing(all).part(0, whole - 1), 2);
            Due.is("10 all but the last", Edges.standing(all).part(0, whole >> 1), 2);
            Due.is("10 all", Edges.standing(all).part(0, whole), STATE);
            Due.is("10 one who is none", Edges.standing(all).part(0, whole + 1), STATE);
            Due.is("10 some, and one who is none", Edges.standing(all).part(0, whole + 2), STATE);
            Due.is("10 no such party", Edges.standing(all).part(1, 1), BAD);
            Due.is("10 below", Edges.standing(all).part(-1, 1), BAD);
        }
        Due.is("10 alone", Texts.room("guests 1;").part(0, 1), STATE);
        Due.is("10 alone", Texts.room("guests 1;").part(0, 0), STATE);
        GuestParties x = Edges.standing("01101001");
        Due.is("10 of another party", x.part(0, 2), STATE);
        Due.is("10 of both", x.part(0, 3), STATE);
        Due.is("10 all of the other", x.part(0, 0b10010110), STATE);
        Due.is("10 the least guest parts", x.part(0, 1), 3);
        Edges.row("10 the least guest parts", x, "01121221");
        Due.is("10 the last party", x.part(2, 0b01000000), 4);
        Edges.row("10 the last party", x, "01121231");
        Due.is("10 beyond the last", x.part(4, 1), BAD);
        Due.is("10 the highest bit", x.part(1, LOW), STATE);
    }

    private static void nowZeroToThree() {
        GuestParties x = Texts.room("guests 2;cost 0 1 9;");
        Edges.takes("11 now", 0, 3, NO, x::now);
        Due.is("11 two alone", x.now(3), 2);
        Due.is("11 worth of none", x.now(2), 0);
        x.join(0, 1);
        Due.is("11 worth below nothing is not NO", x.now(2), -9);
        Due.is("11 none alone", x.now(3), 0);
        Due.is("11 one party", x.now(0), 1);
        GuestParties one = Texts.room("guests 1;");
        Due.is("11 one guest", one.now(0), 1);
        Due.is("11 one guest is lawful", one.now(1), 1);
        Due.is("11 one guest alone", one.now(3), 1);
        GuestParties eight = Texts.room("guests 8;");
        Due.is("11 eight parties", eight.now(0), 8);
        Due.is("11 eight alone", eight.now(3), 8);
        eight.goes(6, 7);
        Due.is("11 six alone", eight.now(3), 6);
    }

    private static void nowAtItsGreatest() {
        for (String word : new String[] {"worth", "cost"}) {
            StringBuilder text = new StringBuilder("guests 7;");
            for (int a = 0; a < 7; a++) {
                for (int b = a + 1; b < 7; b++) {
                    text.append(word).append(a).append(' ').append(b).append(" 9;");
                }
            }
            GuestParties x = Texts.stand(Texts.room(text.toString()), "0000000");
            int all = word.equals("worth") ? 189 : -189;
            Due.is("11 all pairs " + word, x.now(2), all);
            Due.is("24 all pairs " + word, x.best(-1), Math.max(all, 0));
            x.goes(6, 6);
            Due.is("11 but those of one", x.now(2), all / 21 * 15);
        }
    }

    // ---- laws

    private static void lawful(String laws, String row, int want) {
        GuestParties x = Texts.stand(Texts.room("guests " + row.length() + ";" + laws), row);
        Due.is("11 " + row + " by " + laws, x.now(1), want);
        Due.holds("13 " + row + " by " + laws, want == 1 ? x.rank() >= 0 : x.rank() == NONE);
    }

    private static void partiesJustSoMany() {
        String[] rows = {"00000000", "00000001", "00000012", "00000123", "00001234", "00012345", "00123456", "01234567"};
        for (int told = 1; told <= 8; told++) {
            for (int parties = 1; parties <= 8; parties++) {
                lawful("parties " + told + ";", rows[parties - 1], told == parties ? 1 : 0);
            }
        }
    }

    private static void leastAndMost() {
        String[] rows = {"01234567", "00112233", "00000111", "00001111", "00000000"};
        int[] smallest = {1, 2, 3, 4, 8};
        int[] greatest = {1, 2, 5, 4, 8};
        for (int i = 0; i < rows.length; i++) {
            for (int told = 1; told <= 8; told++) {
                lawful("least " + told + ";", rows[i], smallest[i] >= told ? 1 : 0);
                lawful("most " + told + ";", rows[i], greatest[i] <= told ? 1 : 0);
            }
        }
        lawful("least 3;most 5;", "00000111", 1);
        lawful("least 4;most 5;", "00000111", 0);
        lawful("least 3;most 4;", "00000111", 0);
        lawful("least 5;most 4;", "00001111", 0);
        // The smallest, the greatest party may be any of them.
        lawful("least 2;", "01111110", 1);
        lawful("least 2;", "01111111", 0);
        lawful("least 2;", "00011112", 0);
        lawful("most 3;", "00011122", 1);
        lawful("most 3;", "01222233", 0);
        lawful("least 1;most 1;", "0", 1);
        lawful("least 2;", "0", 0);
    }

    private static void togetherAndApart() {
        lawful("together 0 7;", "01111110", 1);
        lawful("together 0 7;", "00000001", 0);
        lawful("together 7 6;", "01234566", 1);
        lawful("together 7 6;", "01234567", 0);
        lawful("apart 0 7;", "00000001", 1);
        lawful("apart 0 7;", "01111110", 0);
        lawful("apart 7 6;", "01234566", 0);
        lawful("apart 7 6;", "00000001", 1);
        lawful("together 0 1;together 1 2;", "000", 1);
        lawful("together 0 1;together 1 2;", "001", 0);
        lawful("together 0 1;apart 0 1;", "00", 0);
        lawful("together 0 1;apart 0 1;", "01", 0);
    }

    private static void unlikeHats() {
        lawful("unlike;", "01", 1);
        lawful("unlike;", "00", 0);
        lawful("unlike;hat 0 0;hat 1 0;", "00", 0);
        lawful("unlike;hat 1 1;", "00", 1);
        lawful("unlike;hat 0 5;hat 1 5;", "00", 0);
        lawful("unlike;hat 0 5;hat 1 4;", "00", 1);
        lawful("hat 0 5;hat 1 5;", "00", 1);
        lawful("unlike;hat 0 5;hat 7 5;hat 1 1;hat 2 2;hat 3 3;hat 4 4;", "00000123", 1);
        lawful("unlike;hat 0 5;hat 7 5;hat 1 1;hat 2 2;hat 3 3;hat 4 4;", "00000010", 0);
        // Six hats: a party of seven has two of one.
        Due.is("12 seven", Texts.room("guests 7;unlike;hat 1 1;hat 2 2;hat 3 3;hat 4 4;hat 5 5;").many(1), 0);
        Due.is("12 six", Texts.room("guests 6;unlike;hat 1 1;hat 2 2;hat 3 3;hat 4 4;hat 5 5;").many(1), 1);
    }

    private static void ringAcross() {
        lawful("ring;", "0101", 0);
        lawful("", "0101", 1);
        lawful("ring;", "0110", 1);
        lawful("ring;", "0011", 1);
        lawful("ring;", "010", 1);
        lawful("ring;", "0102", 1);
        lawful("ring;", "0121", 1);
        lawful("ring;", "0000", 1);
        lawful("ring;", "01234567", 1);
        lawful("ring;", "01233210", 1);
        lawful("ring;", "01233201", 0);
        lawful("ring;", "01111101", 0);
        lawful("ring;", "01000001", 0);
        lawful("ring;", "01222101", 0);
        lawful("ring;", "01232104", 1);
        lawful("ring;", "01234545", 0);
        lawful("ring;", "01232454", 1);
        // One party comes between: the two are across one another all the same.
        lawful("ring;", "00102201", 0);
        int[] ways = {1, 2, 5, 14, 42, 132, 429, 1430};
        for (int n = 1; n <= 8; n++) {
            Due.is("12 ring of " + n, Texts.room("guests " + n + ";ring;").many(0), ways[n - 1]);
        }
    }
}
