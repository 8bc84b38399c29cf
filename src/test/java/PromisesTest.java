/** Each promise by its number: ordinary calls, the edges that the document names, wrong calls. */
public final class PromisesTest {
    private static final int BAD = GuestParties.BAD;
    private static final int STATE = GuestParties.STATE;
    private static final int FULL = GuestParties.FULL;
    private static final int NONE = GuestParties.NONE;
    private static final int NO = GuestParties.NO;
    private static final int LOW = Integer.MIN_VALUE;
    private static final int HIGH = Integer.MAX_VALUE;

    public static void main(String[] args) {
        newObject();
        type();
        clear();
        roomItems();
        roomFaults();
        roomTellsAnew();
        law();
        pair();
        party();
        goes();
        join();
        part();
        now();
        many();
        manyByLaws();
        rank();
        nth();
        draw();
        lot();
        saw();
        forget();
        left();
        sure();
        two();
        between();
        fewest();
        best();
        leaving();
        evening();
        rate();
        keepAndBack();
        count();
        trace();
        Due.finish();
    }

    private static void row(String what, GuestParties x, String want) {
        String got = Texts.row(x);
        Due.holds(what + ": row " + got + ", due is " + want, got.equals(want));
    }

    private static void newObject() {
        GuestParties x = new GuestParties();
        Due.is("1 BAD", BAD, -1);
        Due.is("1 STATE", STATE, -2);
        Due.is("1 FULL", FULL, -3);
        Due.is("1 NONE", NONE, -9);
        Due.is("1 NO", NO, -1000000);
        Due.is("1 guests", x.count(0), 4);
        row("1 all alone", x, "0123");
        for (int what = 0; what < 5; what++) {
            Due.is("1 law " + what, x.law(what), 0);
        }
        Due.is("1 seen", x.count(1), 0);
        Due.is("1 bytes", x.count(4), 0);
        Due.is("1 trace", x.trace(), 0);
        Due.is("1 hat", x.rate(2, 3), 1);
        Due.is("1 worth", x.pair(0, 3, 2), 0);
        Due.is("1 image 0", x.back(0), STATE);
        Due.is("1 image 1", x.back(1), STATE);
        Due.is("1 lot", x.lot(1), 1);
    }

    private static void type() {
        GuestParties x = new GuestParties();
        Due.is("2 n 0", x.type(1, 0), BAD);
        Due.is("2 n 9", x.type(1, 9), BAD);
        Due.is("2 n -1", x.type(1, -1), BAD);
        Due.is("2 n low", x.type(1, LOW), BAD);
        Due.is("2 n high", x.type(1, HIGH), BAD);
        Due.is("2 nothing came", x.count(4), 0);
        // "ring;" is 72 69 6e 67 3b; what is above the lowest n bytes does not count.
        Due.is("2 five bytes", x.type(0xffff41_72696e673bL, 5), 5);
        Due.is("2 read", x.room(), 1);
        Due.is("2 ring", x.law(4), 1);
        Due.is("2 all bits", x.type(-1L, 8), 8);
        Due.is("2 byte 255 begins no token", x.room(), -10);
        x.clear();
        for (int i = 1; i <= 37; i++) {
            Due.is("2 eight more", x.type(0x2020202020202020L, 8), 8 * i);
        }
        Due.is("2 beyond 300", x.type(0, 5), FULL);
        Due.is("2 nothing changed", x.count(4), 296);
        Due.is("2 BAD ahead of FULL", x.type(0, 9), BAD);
        Due.is("2 just 300", x.type(0x20202020, 4), 300);
        Due.is("2 full", x.type(32, 1), FULL);
        Due.is("2 blanks alone", x.room(), 0);
    }

    private static void clear() {
        GuestParties x = new GuestParties();
        Due.is("3 empty", x.clear(), 0);
        Texts.type(x, "guests 7;ring");
        Due.is("3 had", x.clear(), 13);
        Due.is("3 has none now", x.count(4), 0);
        Due.is("3 again", x.clear(), 0);
        Due.is("3 nothing was told", x.room(), 0);
        Due.is("3 guests", x.count(0), 4);
    }

    private static void roomItems() {
        GuestParties x = new GuestParties();
        Due.is("4 none", x.room(), 0);
        Due.is("4 blanks", Texts.tell(x, "   "), 0);
        Due.is("4 all", Texts.tell(x, "guests 8;hat 7 5;parties 8;least 1;most 8;unlike;ring;"
                + "together 0 7;apart 6 7;worth 0 1 9;cost 0 1 0;"), 11);
        Due.is("4 blanks about", Texts.tell(x, "  guests   2  ;  hat  1   5 ; "), 2);
        Due.is("4 no blanks", Texts.tell(x, "guests2;hat1 5;least2;"), 3);
        Due.is("4 a space is no need", x.law(1), 2);
        Due.is("4 without guests", Texts.tell(x, "hat 3 5;"), 1);
        Due.is("4 told again", Texts.tell(x, "hat 0 1;hat 0 2;together 0 1;together 1 0;worth 0 1 2;worth 1 0 3;"), 6);
        Due.is("4 hat, what is later", x.rate(2, 0), -1);
        Due.is("4 worth, what is later", x.pair(0, 1, 2), 3);
        Due.is("4 together once", x.count(2), 1);
        Due.is("4 text is empty", x.count(4), 0);
    }

    private static void fault(String text, int place) {
        GuestParties x = new GuestParties();
        Due.is("4 fault in '" + text + "'", Texts.tell(x, text), -10 - place);
        Due.is("4 text stays '" + text + "'", x.count(4), text.length());
    }

    private static void roomFaults() {
        fault("guests 0;", 7);
        fault("guests 9;", 7);
        fault("guests 3;guests 3;", 9);
        fault("ring;guests 3;", 5);
        fault("guests 3;hat 3 0;", 13);
        fault("hat 0 6;", 6);
        fault("parties 0;", 8);
        fault("parties 9;", 8);
        fault("most 9;", 5);
        fault("least 0;", 6);
        fault("parties 1;parties 1;", 10);
        fault("least 1;ring;least 1;", 13);
        fault("unlike;unlike;", 7);
        fault("guests 1;apart 0 0;", 17);
        fault("apart 1 4;", 8);
        fault("together 4 1;", 9);
        fault("worth 0 0 1;", 8);
        fault("worth 0 1 10;", 10);
        fault("cost 0 1 99;", 9);
        fault("cost 0 1 100;", 9);
        fault("hat 4294967296 0;", 4);
        fault("hat 00 0;", 4);
        fault("hat 01 0;", 4);
        fault("hat 0;", 5);
        fault("hat ring 0;", 4);
        fault("ring 1;", 5);
        fault("ring1;", 4);
        fault("rings;", 0);
        fault("ringz;", 0);
        fault("rin", 0);
        fault("Ring;", 0);
        fault("rinG;", 0);
        fault(";", 0);
        fault("ring;;", 5);
        fault("7;", 0);
        fault("hat -1 0;", 4);
        fault("ring;\t", 5);
        fault("ring\u0000;", 4);
        fault("\u00e9;", 0);
        fault("ring", 4);
        fault("ring  ", 6);
        fault("hat ", 4);
        fault("hat 1", 5);
        fault("guests", 6);
        fault("ring;hat 1 ", 11);
        // The first token counts, whatever comes behind it.
        fault("hat 9 9;!", 4);
    }

    private static void roomTellsAnew() {
        GuestParties x = Texts.room("guests 5;hat 4 3;parties 2;least 1;most 4;unlike;ring;together 0 1;apart 1 2;worth 0 1 4;");
        x.join(0, 1);
        x.saw(0, 1, 1);
        x.keep(0);
        x.keep(1);
        x.lot(77);
        x.rate(0, 0);
        Due.is("4 fault", Texts.tell(x, "guests 3;hat 0 5;ring;ring;"), -10 - 22);
        Due.is("4 nothing changes: guests", x.count(0), 5);
        row("4 nothing changes: now", x, "00123");
        Due.is("4 nothing changes: seen", x.count(1), 1);
        Due.is("4 nothing changes: hat", x.rate(2, 4), -2);
        Due.is("4 nothing changes: law", x.law(2), 4);
        Due.is("4 nothing changes: pair", x.count(2), 1);
        Due.is("4 nothing changes: image", x.back(0), 4);
        x.lot(77);
        x.clear();
        Due.is("4 anew", x.room(), 0);
        Due.is("4 anew: guests", x.count(0), 4);
        row("4 anew: now", x, "0123");
        Due.is("4 anew: seen", x.count(1), 0);
        Due.is("4 anew: image", x.back(0), STATE);
        Due.is("4 anew: the other image", x.back(1), STATE);
        Due.is("4 anew: lot stays", x.lot(77), 77);
        Due.is("4 anew: trace stays", x.trace(), 102);
        for (int what = 0; what < 5; what++) {
            Due.is("4 anew: law " + what, x.law(what), 0);
        }
        Due.is("4 anew: together", x.count(2), 0);
        Due.is("4 anew: apart", x.count(3), 0);
        Due.is("4 anew: worth", x.pair(0, 1, 2), 0);
        Due.is("4 anew: many", x.many(0), 15);
        Texts.tell(x, "guests 5;hat 0 0;");
        Due.is("4 anew: hat", x.rate(2, 4), 1);
        Due.is("4 anew, once more: together", x.count(2), 0);
        Due.is("4 anew, once more: apart", x.count(3), 0);
        Due.is("4 anew, once more: many", x.many(0), 52);
    }

    private static void law() {
        GuestParties x = Texts.room("parties 8;least 7;most 6;unlike;");
        Due.is("5 parties", x.law(0), 8);
        Due.is("5 least", x.law(1), 7);
        Due.is("5 most", x.law(2), 6);
        Due.is("5 unlike", x.law(3), 1);
        Due.is("5 ring", x.law(4), 0);
        Due.is("5 no such", x.law(5), BAD);
        Due.is("5 below", x.law(-1), BAD);
        Due.is("5 low", x.law(LOW), BAD);
        Texts.tell(x, "ring;");
        Due.is("5 ring told", x.law(4), 1);
        Due.is("5 most not told", x.law(2), 0);
    }

    private static void pair() {
        GuestParties x = Texts.room("guests 5;together 3 1;apart 4 0;worth 0 1 9;cost 4 3 9;together 1 2;");
        Due.is("6 together", x.pair(1, 3, 0), 1);
        Due.is("6 together, turned", x.pair(3, 1, 0), 1);
        Due.is("6 by law just what is told", x.pair(2, 3, 0), 0);
        Due.is("6 not together", x.pair(0, 4, 0), 0);
        Due.is("6 apart", x.pair(0, 4, 1), 1);
        Due.is("6 not apart", x.pair(1, 3, 1), 0);
        Due.is("6 worth", x.pair(1, 0, 2), 9);
        Due.is("6 cost", x.pair(3, 4, 2), -9);
        Due.is("6 alike", x.pair(1, 1, 0), NO);
        Due.is("6 no guest", x.pair(1, 5, 0), NO);
        Due.is("6 no guest", x.pair(5, 1, 0), NO);
        Due.is("6 below", x.pair(-1, 1, 2), NO);
        Due.is("6 what", x.pair(0, 1, 3), NO);
        Due.is("6 what below", x.pair(0, 1, -1), NO);
    }

    private static void party() {
        GuestParties x = Texts.stand(Texts.room("guests 8;"), "01012301");
        row("7", x, "01012301");
        Due.is("7 no guest", x.party(8), BAD);
        Due.is("7 below", x.party(-1), BAD);
        Due.is("7 low", x.party(LOW), BAD);
    }

    private static void goes() {
        GuestParties x = new GuestParties();
        Due.is("8 alone is there", x.goes(2, 2), STATE);
        Due.is("8 goes", x.goes(3, 1), 1);
        row("8", x, "0121");
        Due.is("8 is there", x.goes(1, 3), STATE);
        Due.is("8 least guest goes", x.goes(0, 2), 0);
        row("8 numbered anew", x, "0101");
        Due.is("8 alone", x.goes(1, 1), 1);
        row("8 alone", x, "0102");
        Due.is("8 no guest", x.goes(4, 0), BAD);
        Due.is("8 to no guest", x.goes(0, 4), BAD);
        Due.is("8 below", x.goes(-1, -1), BAD);
        row("8 refused", x, "0102");
    }

    private static void join() {
        GuestParties x = new GuestParties();
        Due.is("9", x.join(3, 1), 3);
        row("9", x, "0121");
        Due.is("9 gone", x.join(0, 3), BAD);
        Due.is("9 alike", x.join(1, 1), BAD);
        Due.is("9 below", x.join(-1, 1), BAD);
        Due.is("9 below", x.join(1, -1), BAD);
        Due.is("9 high", x.join(HIGH, 0), BAD);
        row("9 refused", x, "0121");
        Due.is("9 again", x.join(0, 2), 2);
        row("9 again", x, "0101");
        Due.is("9 all", x.join(1, 0), 1);
        row("9 all", x, "0000");
    }

    private static void part() {
        GuestParties x = Texts.stand(Texts.room("guests 6;"), "001110");
        Due.is("10 none", x.part(0, 0), STATE);
        Due.is("10 all", x.part(0, 35), STATE);
        Due.is("10 of another", x.part(0, 5), STATE);
        Due.is("10 no guest", x.part(0, 64), STATE);
        Due.is("10 no guest either", x.part(0, 65), STATE);
        Due.is("10 all bits", x.part(0, -1), STATE);
        Due.is("10 no party", x.part(2, 1), BAD);
        Due.is("10 below", x.part(-1, 1), BAD);
        Due.is("10 BAD ahead of STATE", x.part(2, 0), BAD);
        row("10 refused", x, "001110");
        Due.is("10", x.part(0, 1), 3);
        row("10", x, "012221");
        Due.is("10 two part", x.part(2, 20), 4);
        row("10 two part", x, "012321");
    }

    private static void now() {
        GuestParties x = Texts.stand(Texts.room("guests 5;most 3;worth 0 1 9;cost 1 2 4;worth 3 4 7;"), "00012");
        Due.is("11 parties", x.now(0), 3);
        Due.is("11 lawful", x.now(1), 1);
        Due.is("11 worth", x.now(2), 5);
        Due.is("11 alone", x.now(3), 2);
        Due.is("11 no such", x.now(4), NO);
        Due.is("11 below", x.now(-1), NO);
        x.goes(3, 0);
        Due.is("11 not lawful", x.now(1), 0);
        Due.is("11 worth does not ask for it", x.now(2), 5);
        Texts.stand(x, "01100");
        Due.is("11 less than nothing, and more", x.now(2), 3);
        Due.is("11 nobody alone", x.now(3), 0);
        Texts.stand(x, "01123");
        Due.is("11 less than nothing", x.now(2), -4);
    }

    private static void many() {
        int[] bell = {1, 1, 2, 5, 15, 52, 203, 877, 4140};
        int[] ofEight = {4140, 1, 127, 966, 1701, 1050, 266, 28, 1};
        int[] ringOfEight = {1430, 1, 28, 196, 490, 490, 196, 28, 1};
        for (int n = 1; n <= 8; n++) {
            Due.is("12 all of " + n, Texts.room("guests " + n + ";").many(0), bell[n]);
        }
        GuestParties x = Texts.room("guests 8;");
        GuestParties ring = Texts.room("guests 8;ring;");
        for (int parties = 0; parties <= 8; parties++) {
            Due.is("12 with " + parties, x.many(parties), ofEight[parties]);
            Due.is("12 ring with " + parties, ring.many(parties), ringOfEight[parties]);
        }
        Due.is("12 nine", x.many(9), BAD);
        Due.is("12 below", x.many(-1), BAD);
        Due.is("12 more than guests", new GuestParties().many(8), 0);
    }

    private static void ways(String laws, int want) {
        Due.is("12 " + laws, Texts.room(laws).many(0), want);
    }

    private static void manyByLaws() {
        ways("parties 2;", 7);
        ways("parties 5;", 0);
        ways("least 2;", 4);
        ways("least 5;", 0);
        ways("most 1;", 1);
        ways("most 2;", 10);
        ways("least 2;most 2;", 3);
        ways("least 3;most 2;", 0);
        ways("unlike;", 1);
        ways("unlike;hat 0 1;", 4);
        ways("unlike;hat 0 1;hat 1 1;", 7);
        ways("unlike;hat 0 1;hat 1 2;hat 2 3;", 15);
        ways("hat 0 1;", 15);
        ways("together 0 1;", 5);
        ways("apart 0 1;", 10);
        ways("together 0 1;apart 1 0;", 0);
        ways("together 0 1;together 1 2;apart 0 2;", 0);
        ways("together 0 1;together 1 2;together 2 3;", 1);
        ways("together 3 0;apart 3 1;ring;", 3);
        ways("ring;", 14);
        ways("ring;together 0 2;together 1 3;", 1);
        ways("ring;together 0 2;together 1 3;apart 0 1;", 0);
        ways("guests 8;ring;least 2;", 91);
        ways("guests 8;least 2;most 2;", 105);
        ways("guests 8;ring;least 2;most 2;", 14);
        // The laws change: what was gathered before does not count any more.
        GuestParties x = new GuestParties();
        Due.is("12 before", x.many(0), 15);
        Texts.tell(x, "most 2;");
        Due.is("12 behind", x.many(0), 10);
        Texts.tell(x, "parties 3;");
        Due.is("12 behind that", x.many(2), 0);
    }

    private static void rank() {
        GuestParties x = Texts.room("guests 8;");
        Due.is("13 the last", x.rank(), 4139);
        Texts.stand(x, "00000000");
        Due.is("13 the first", x.rank(), 0);
        Texts.stand(x, "00000001");
        Due.is("13 the second", x.rank(), 1);
        Texts.tell(x, "guests 4;ring;apart 0 1;");
        Texts.stand(x, "0100");
        Due.is("13 by law", x.rank(), 0);
        Texts.stand(x, "0101");
        Due.is("13 across", x.rank(), NONE);
        Texts.stand(x, "0102");
        Due.is("13 without the one across", x.rank(), 1);
        Texts.stand(x, "0010");
        Due.is("13 not apart", x.rank(), NONE);
    }

    private static void nth() {
        GuestParties x = Texts.room("guests 3;");
        String[] rows = {"000", "001", "010", "011", "012"};
        for (int i = 0; i < 5; i++) {
            for (int g = 0; g < 3; g++) {
                Due.is("14 " + i + " " + g, x.nth(i, g), rows[i].charAt(g) - '0');
            }
        }
        Due.is("14 not so many", x.nth(5, 0), -5);
        Due.is("14 high", x.nth(HIGH, 2), -5);
        Due.is("14 below", x.nth(-1, 0), BAD);
        Due.is("14 low", x.nth(LOW, 0), BAD);
        Due.is("14 no guest", x.nth(0, 3), BAD);
        Due.is("14 no guest, not so many", x.nth(5, 3), BAD);
        Due.is("14 guest below", x.nth(0, -1), BAD);
        row("14 now stays", x, "012");
        GuestParties eight = Texts.room("guests 8;");
        Due.is("14 last of eight", eight.nth(4139, 7), 7);
        Due.is("14 beyond eight", eight.nth(4140, 7), -5);
        Due.is("14 none", Texts.room("parties 5;").nth(0, 0), -5);
    }

    private static void draw() {
        GuestParties x = new GuestParties();
        int lot = 1;
        for (int i = 0; i < 40; i++) {
            lot = lot * 1103515245 + 12345;
            Due.is("15 number " + i, x.draw(), (lot >>> 16) % 15);
            Due.is("15 now " + i, x.rank(), (lot >>> 16) % 15);
            Due.is("15 lot " + i, x.lot(lot), lot);
        }
        GuestParties none = Texts.room("guests 2;least 3;");
        none.lot(9);
        Due.is("15 none", none.draw(), STATE);
        Due.is("15 lot stays", none.lot(9), 9);
        row("15 now stays", none, "01");
        // What was seen does not bind what is drawn.
        x.saw(0, 1, 1);
        x.saw(0, 1, 0);
        Due.holds("15 seen", x.draw() >= 0);
        Due.is("15 seen stays", x.count(1), 2);
    }

    private static void lot() {
        GuestParties x = new GuestParties();
        Due.is("16 at first", x.lot(HIGH), 1);
        Due.is("16 high", x.lot(LOW), HIGH);
        Due.is("16 low", x.lot(0), LOW);
        Due.is("16 zero", x.lot(-1), 0);
        x.draw();
        Due.is("16 wrapped", x.lot(0), -1103515245 + 12345);
    }

    private static void saw() {
        GuestParties x = new GuestParties();
        Due.is("17 alike", x.saw(1, 1, 1), BAD);
        Due.is("17 no guest", x.saw(0, 4, 1), BAD);
        Due.is("17 no guest", x.saw(4, 0, 1), BAD);
        Due.is("17 below", x.saw(-1, 0, 1), BAD);
        Due.is("17 is 2", x.saw(0, 1, 2), BAD);
        Due.is("17 is below", x.saw(0, 1, -1), BAD);
        for (int i = 1; i <= 10; i++) {
            Due.is("17 seen, again too", x.saw(i % 2, 3, i % 2), i);
        }
        Due.is("17 full", x.saw(0, 1, 1), FULL);
        Due.is("17 BAD ahead of FULL", x.saw(0, 0, 1), BAD);
        Due.is("17 ten", x.count(1), 10);
    }

    private static void forget() {
        GuestParties x = new GuestParties();
        Due.is("18 nothing", x.forget(), 0);
        x.saw(0, 1, 1);
        x.saw(2, 1, 0);
        Due.is("18 had", x.left(), 3);
        Due.is("18", x.forget(), 2);
        Due.is("18 none is there", x.count(1), 0);
        Due.is("18 all are left", x.left(), 15);
        Due.is("18 the next is the first", x.saw(0, 1, 0), 1);
    }

    private static void left() {
        GuestParties x = Texts.room("guests 5;");
        Due.is("19 all", x.left(), 52);
        x.saw(4, 0, 1);
        Due.is("19 together", x.left(), 15);
        x.saw(1, 2, 0);
        Due.is("19 and apart", x.left(), 10);
        x.saw(1, 2, 0);
        Due.is("19 again", x.left(), 10);
        x.saw(2, 1, 1);
        Due.is("19 against it", x.left(), 0);
        Texts.tell(x, "guests 5;ring;most 2;");
        x.saw(0, 2, 1);
        Due.is("19 lawful ones only", x.left(), 2);
        Due.is("19 many does not ask for it", x.many(0), 21);
    }

    private static void sure() {
        GuestParties x = Texts.room("guests 4;together 0 1;apart 1 2;");
        Due.is("20 together", x.sure(1, 0), 1);
        Due.is("20 follows", x.sure(0, 2), 0);
        Due.is("20 some just", x.sure(0, 3), NONE);
        x.saw(3, 0, 1);
        Due.is("20 seen", x.sure(1, 3), 1);
        Due.is("20 seen not", x.sure(2, 3), 0);
        x.saw(3, 0, 0);
        Due.is("20 none is left", x.sure(0, 1), NONE);
        Due.is("20 alike", x.sure(2, 2), BAD);
        Due.is("20 no guest", x.sure(0, 4), BAD);
        Due.is("20 below", x.sure(-1, 0), BAD);
    }

    private static void refusesImages(String promise, java.util.function.IntBinaryOperator call) {
        Due.is(promise + " image 2", call.applyAsInt(2, 0), BAD);
        Due.is(promise + " image -1", call.applyAsInt(-1, 0), BAD);
        Due.is(promise + " not kept", call.applyAsInt(1, 0), STATE);
    }

    private static GuestParties withImage(String image, String now) {
        GuestParties x = Texts.room("guests " + now.length() + ";");
        Texts.stand(x, image);
        x.keep(0);
        return Texts.stand(x, now);
    }

    private static void two() {
        GuestParties x = withImage("00112233", "01123340");
        int[] finer = {0, 1, 2, 3, 4, 4, 5, 6};
        int[] coarser = {0, 0, 0, 0, 1, 1, 0, 0};
        for (int g = 0; g < 8; g++) {
            Due.is("21 finer " + g, x.two(0, 0, g), finer[g]);
            Due.is("21 coarser " + g, x.two(0, 1, g), coarser[g]);
        }
        row("21 now stays", x, "01123340");
        refusesImages("21", (image, any) -> x.two(image, 0, 0));
        Due.is("21 what", x.two(0, 2, 0), BAD);
        Due.is("21 what below", x.two(0, -1, 0), BAD);
        Due.is("21 no guest", x.two(0, 0, 8), BAD);
        Due.is("21 guest below", x.two(0, 0, -1), BAD);
        Due.is("21 BAD ahead of STATE", x.two(1, 0, 8), BAD);
    }

    private static void between() {
        GuestParties x = withImage("00112233", "01123340");
        Due.is("22", x.between(0), 203);
        refusesImages("22", (image, any) -> x.between(image));
        Due.is("22 alike", withImage("0121", "0121").between(0), 1);
        Due.is("22 all", withImage("00000000", "01234567").between(0), 4140);
        Due.is("22 a product", withImage("000111", "012345").between(0), 25);
        GuestParties unlawful = Texts.room("guests 3;parties 2;");
        unlawful.keep(0);
        Texts.stand(unlawful, "000");
        Due.is("22 lawful or not", unlawful.between(0), 5);
    }

    private static void fewest() {
        Due.is("23 none", withImage("0120", "0120").fewest(0), 0);
        Due.is("23 all together", withImage("0000", "0123").fewest(0), 3);
        Due.is("23 all alone", withImage("0123", "0000").fewest(0), 3);
        Due.is("23 names do not count", withImage("01110", "01101").fewest(0), 2);
        // 3 stay where the two that share most become one another, 4 the other way.
        Due.is("23 not the greedy way", withImage("0001100", "0000011").fewest(0), 3);
        Due.is("23 two by two", withImage("00112233", "01230123").fewest(0), 4);
        Due.is("23 eight", withImage("00001111", "01010101").fewest(0), 4);
        GuestParties x = withImage("0011", "0101");
        refusesImages("23", (image, any) -> x.fewest(image));
        row("23 now stays", x, "0101");
    }

    private static void best() {
        GuestParties x = Texts.room("guests 4;worth 0 1 5;worth 1 2 5;cost 0 2 9;worth 2 3 1;apart 1 2;");
        Due.is("24 worth", x.best(-1), 6);
        int[] row = {0, 0, 1, 1};
        for (int g = 0; g < 4; g++) {
            Due.is("24 row " + g, x.best(g), row[g]);
        }
        Due.is("24 no guest", x.best(4), NO);
        Due.is("24 below", x.best(-2), NO);
        row("24 now stays", x, "0123");
        Texts.tell(x, "guests 3;parties 2;");
        Due.is("24 the first of several", x.best(1), 0);
        Due.is("24 the first of several", x.best(2), 1);
        Texts.tell(x, "guests 2;parties 1;cost 0 1 9;");
        Due.is("24 below nothing", x.best(-1), -9);
        Texts.tell(x, "guests 2;parties 3;worth 0 1 9;");
        Due.is("24 none", x.best(-1), NO);
        Due.is("24 none", x.best(0), NO);
        Texts.tell(x, "worth 0 1 9;");
        x.saw(0, 1, 0);
        Due.is("24 what was seen does not bind", x.best(-1), 9);
    }

    private static void leaves(String what, GuestParties x, int goings, String row) {
        Due.is("25 " + what + ": goings", x.leaving(-1), goings);
        for (int g = 0; g < row.length(); g++) {
            Due.is("25 " + what + ": party of " + g, x.leaving(g), row.charAt(g) - '0');
        }
    }

    private static void leaving() {
        GuestParties x = new GuestParties();
        leaves("nobody gains", x, 0, "0123");
        Due.is("25 no guest", x.leaving(4), BAD);
        Due.is("25 below", x.leaving(-2), BAD);
        Texts.tell(x, "cost 0 1 1;");
        leaves("who is alone stays", x, 0, "0123");
        leaves("one leaves", Texts.stand(x, "0011"), 1, "0122");
        row("25 now stays", x, "0011");
        Texts.tell(x, "guests 3;worth 0 1 4;worth 0 2 4;cost 1 2 9;");
        leaves("the least number", x, 1, "001");
        Texts.tell(x, "guests 3;worth 0 1 4;worth 0 2 5;cost 1 2 9;");
        leaves("the greatest", x, 1, "010");
        Texts.tell(x, "guests 3;cost 0 1 4;");
        leaves("alone first, 2 would do as well", Texts.stand(x, "001"), 1, "012");
        Texts.tell(x, "guests 3;worth 0 1 4;worth 0 2 4;cost 1 2 9;");
        leaves("as much is not more", Texts.stand(x, "010"), 0, "010");
        // 35 goings: the longest way that a search came upon.
        Due.is("25 long text", Texts.tell(x, "guests8;worth0 1 4;worth0 2 3;worth0 3 1;cost0 4 6;worth0 6 1;worth0 7 2;"
                + "worth1 2 5;worth1 3 5;worth1 4 2;cost1 5 5;cost1 6 5;worth2 3 6;worth2 4 6;cost2 5 2;cost2 6 2;"
                + "worth2 7 2;worth3 4 7;worth3 5 1;cost3 6 1;cost3 7 4;worth4 5 8;worth4 6 8;cost4 7 8;worth5 6 9;"
                + "worth6 7 9;"), 26);
        leaves("long", Texts.stand(x, "01234561"), 35, "01111000");
    }

    private static void evening() {
        GuestParties x = new GuestParties();
        Due.is("26 none", x.evening(0), BAD);
        Due.is("26 too long", x.evening(100), BAD);
        Due.is("26 below", x.evening(LOW), BAD);
        Due.is("26 lot stays", x.lot(1), 1);
        row("26 now stays", x, "0123");
        Due.is("26 one step", x.evening(1), 1);
        // 1 goes on to 1103527590 (16838) and 2524885223 (38526): guest 2 goes to guest 2, alone.
        row("26 itself, alone", x, "0123");
        Due.is("26 lot went on twice", x.lot(0), (int) 2524885223L);
        x.lot(1103527590);
        x.evening(1);
        // 38526 and the one behind it, 10113: guest 2 goes to guest 1.
        row("26 to another", x, "0112");
        GuestParties one = Texts.room("guests 1;");
        Due.is("26 one guest is alone", one.evening(99), 99);
        GuestParties two = Texts.room("guests 2;");
        two.join(0, 1);
        Due.is("26 longest", two.evening(99), countedEvening(99));
    }

    // Two guests: alone are both, where the last step was one's own.
    private static int countedEvening(int steps) {
        int lot = 1;
        int counted = 0;
        boolean together = true;
        for (int i = 0; i < steps; i++) {
            lot = lot * 1103515245 + 12345;
            int g = (lot >>> 16) % 2;
            lot = lot * 1103515245 + 12345;
            together = g != (lot >>> 16) % 2;
            counted += together ? 0 : 1;
        }
        return counted;
    }

    private static void rate() {
        GuestParties x = Texts.room("guests 5;hat 3 5;worth 3 1 4;cost 3 2 7;worth 3 4 9;");
        Texts.stand(x, "01112");
        int[] rates = {3, 0, -2, 0, -1, 6};
        int[] traces = {1, 11, 101, 1011, 10101, 100001};
        long trace = 0;
        for (int kind = 0; kind < 6; kind++) {
            Due.is("27 kind " + kind, x.rate(kind, 3), rates[kind]);
            trace += traces[kind];
            Due.is("31 trace of kind " + kind, x.trace(), trace);
        }
        Due.is("27 singer", x.rate(3, 1), 14);
        Due.is("27 dog", x.rate(4, 4), 3);
        trace = x.trace();
        Due.is("27 no kind", x.rate(6, 0), NO);
        Due.is("27 kind below", x.rate(-1, 0), NO);
        Due.is("27 no guest", x.rate(0, 5), NO);
        Due.is("27 guest below", x.rate(0, -1), NO);
        Due.is("31 refused: no trace", x.trace(), trace);
    }

    private static void keepAndBack() {
        GuestParties x = new GuestParties();
        Due.is("28 no image", x.keep(2), BAD);
        Due.is("28 below", x.keep(-1), BAD);
        Due.is("29 no image", x.back(2), BAD);
        Due.is("29 below", x.back(-1), BAD);
        Due.is("29 not kept", x.back(0), STATE);
        x.join(0, 1);
        x.saw(0, 2, 1);
        x.lot(50);
        x.rate(0, 0);
        Texts.type(x, "ring;");
        Due.is("28", x.keep(0), 3);
        Due.is("29 the other not kept", x.back(1), STATE);
        x.join(0, 1);
        Due.is("28 the other", x.keep(1), 2);
        x.saw(1, 2, 0);
        x.lot(60);
        x.rate(0, 0);
        x.type(32, 1);
        Due.is("29", x.back(0), 3);
        row("29 now", x, "0012");
        Due.is("29 seen", x.count(1), 1);
        Due.is("29 just that", x.left(), 5);
        Due.is("29 lot", x.lot(70), 50);
        Due.is("29 nothing else: trace", x.trace(), 2);
        Due.is("29 nothing else: text", x.count(4), 6);
        x.forget();
        x.goes(3, 0);
        Due.is("29 again", x.back(0), 3);
        row("29 again", x, "0012");
        Due.is("29 seen again", x.count(1), 1);
        Due.is("29 the other", x.back(1), 2);
        row("29 the other", x, "0001");
        Due.is("28 kept anew", x.keep(0), 2);
        x.goes(0, 0);
        Due.is("29 as it was kept last", x.back(0), 2);
        row("29 as it was kept last", x, "0001");
    }

    private static void count() {
        GuestParties x = Texts.room("guests 6;together 0 1;together 1 0;together 2 1;apart 3 4;");
        x.saw(0, 1, 1);
        x.type(0, 3);
        Due.is("30 guests", x.count(0), 6);
        Due.is("30 seen", x.count(1), 1);
        Due.is("30 together", x.count(2), 2);
        Due.is("30 apart", x.count(3), 1);
        Due.is("30 bytes", x.count(4), 3);
        Due.is("30 no such", x.count(5), BAD);
        Due.is("30 below", x.count(-1), BAD);
    }

    private static void trace() {
        GuestParties x = new GuestParties();
        for (int i = 0; i < 300; i++) {
            x.rate(5, i % 4);
        }
        Due.is("31 added", x.trace(), 30000300L);
        x.room();
        Due.is("31 stays", x.trace(), 30000300L);
    }
}
