import java.util.List;

/**
 * The edges of THE TEXT (promises 2 to 4, and what "Terms" tells of ITEMS, TOKENS
 * and FAULT): the last that is taken and the first that is not, on both sides.
 */
public final class TextEdgesTest {
    private static final int BAD = GuestParties.BAD;
    private static final int FULL = GuestParties.FULL;
    private static final int SPACE = Scene.SPACE;
    private static final List<String> NUMBER_LAWS = List.of("parties", "least", "most");
    private static final List<String> PLAIN_LAWS = List.of("unlike", "ring");

    public static void main(String[] args) {
        typeTakesOneToEight();
        typeTakesTheLowestBytes();
        typeTakesThreeHundred();
        typeTakesAnewWhereTheTextIsEmpty();
        clearTellsWhatThereWas();
        roomReadsAllThreeHundred();
        roomOfNothing();
        guestsOneToEight();
        guestsComeFirst();
        hatsOfGuests();
        hatsZeroToFive();
        numberLawsOneToEight();
        onceEachAtMost();
        maybeToldAgain();
        twoGuestsThatAreUnlike();
        worthsZeroToNine();
        whatIsLaterCounts();
        blankIsThirtyTwoAlone();
        bytesBehindAWord();
        bytesWhereANumberIsDue();
        bytesBehindANumber();
        wordsToTheLetter();
        numbersWithAZeroAhead();
        numbersThatAreTooGreat();
        itemsEndWithSemicolon();
        textsThatEndTooEarly();
        theFirstFaultCounts();
        Due.finish();
    }

    private static void items(String text, int want) {
        Due.is("4 '" + text + "'", Texts.tell(new GuestParties(), text), want);
    }

    private static void fault(String text, int place) {
        GuestParties x = new GuestParties();
        Due.is("4 '" + text + "'", Texts.tell(x, text), -10 - place);
        Due.is("4 '" + text + "' stays", x.count(4), text.length());
    }

    // ---- type, clear

    private static void typeTakesOneToEight() {
        GuestParties x = new GuestParties();
        Due.is("2 n 0", x.type(32, 0), BAD);
        Due.is("2 n 1", x.type(32, 1), 1);
        Due.is("2 n 8", x.type(0x2020202020202020L, 8), 9);
        Due.is("2 n 9", x.type(0x2020202020202020L, 9), BAD);
        Due.is("2 n -1", x.type(32, -1), BAD);
        Due.is("2 n -8", x.type(32, -8), BAD);
        Due.is("2 n 264", x.type(32, 264), BAD);
        Due.is("2 refused ones have come to nothing", x.count(4), 9);
    }

    private static void typeTakesTheLowestBytes() {
        // Byte by byte from one to eight of "together" and what stands above them.
        String word = "together";
        for (int n = 1; n <= 8; n++) {
            GuestParties x = new GuestParties();
            byte[] bytes = word.getBytes(java.nio.charset.StandardCharsets.ISO_8859_1);
            Texts.type(x, word.substring(0, 8 - n));
            x.type(Texts.pack(bytes, 0, 8), n);
            Texts.type(x, " 0 1;");
            Due.is("2 the lowest " + n + " bytes, the highest first", x.room(), 1);
        }
        GuestParties x = new GuestParties();
        x.type(-1L, 8);
        Due.is("2 bytes of 255", x.room(), -10);
        x.clear();
        x.type(0x2020202020202000L, 8);
        Due.is("2 a byte of 0 comes, too", x.room(), -17);
        x.clear();
        x.type(0x8020202020202020L, 8);
        Due.is("2 the highest bit", x.room(), -10);
    }

    private static GuestParties typed(int length) {
        GuestParties x = new GuestParties();
        Texts.type(x, " ".repeat(length));
        Due.is("2 typed", x.count(4), length);
        return x;
    }

    private static void typeTakesThreeHundred() {
        for (int n = 1; n <= 8; n++) {
            GuestParties x = typed(SPACE - n);
            Due.is("2 just 300 by " + n, x.type(0, n), SPACE);
            Due.is("2 none behind 300", x.type(0, 1), FULL);
            Due.is("2 no eight behind 300", x.type(0, 8), FULL);
            Due.is("2 BAD ahead of FULL", x.type(0, 0), BAD);
            Due.is("2 BAD ahead of FULL", x.type(0, 9), BAD);
            Due.is("2 300 stay", x.count(4), SPACE);
        }
        for (int n = 2; n <= 8; n++) {
            GuestParties x = typed(SPACE - n + 1);
            Due.is("2 one too many by " + n, x.type(0, n), FULL);
            Due.is("2 none of them came", x.count(4), SPACE - n + 1);
            Due.is("2 one fewer comes", x.type(0x2020202020202020L, n - 1), SPACE);
            Due.is("2 blanks alone", x.room(), 0);
        }
    }

    private static void typeTakesAnewWhereTheTextIsEmpty() {
        GuestParties x = typed(SPACE);
        Due.is("3 had 300", x.clear(), SPACE);
        Due.is("2 behind clear", x.type(0x2020202020202020L, 8), 8);
        x = typed(SPACE);
        Due.is("4 read", x.room(), 0);
        Due.is("2 behind room", x.type(0x2020202020202020L, 8), 8);
        x = new GuestParties();
        Texts.type(x, Texts.filled("", "!", SPACE));
        Due.is("4 not read", x.room(), -10 - (SPACE - 1));
        Due.is("2 behind a FAULT", x.type(32, 1), FULL);
    }

    private static void clearTellsWhatThereWas() {
        for (int length : new int[] {0, 1, 7, 8, 9, 299, 300}) {
            GuestParties x = typed(length);
            Due.is("3 had " + length, x.clear(), length);
            Due.is("3 is empty", x.count(4), 0);
            Due.is("3 has none", x.clear(), 0);
        }
        GuestParties x = Texts.room("guests 2;ring;");
        Texts.type(x, "guests 7;");
        x.clear();
        Due.is("3 what was read stays", x.count(0), 2);
        Texts.type(x, "most 2;");
        Due.is("3 what was cleared is not read", x.room(), 1);
        Due.is("3 what was cleared is not read", x.count(0), 4);
    }

    // ---- room

    private static void roomReadsAllThreeHundred() {
        GuestParties x = new GuestParties();
        Texts.type(x, Texts.filled("guests 2;", "ring;", SPACE));
        Due.is("4 300 bytes", x.room(), 2);
        Due.is("4 the last of them", x.law(4), 1);
        Due.is("4 is empty then", x.count(4), 0);
        fault(Texts.filled("guests 2;", ";", SPACE), SPACE - 1);
        fault(Texts.filled("guests 2;", "ring", SPACE), SPACE);
        fault(Texts.filled("guests 2;", "hat 1 5", SPACE), SPACE);
        fault(Texts.filled("guests 2;hat 1", "", SPACE), SPACE);
        fault(Texts.filled("guests 2;", "r", SPACE), SPACE - 1);
        fault(Texts.filled("hat ", "9", SPACE), SPACE - 1);
        fault("z".repeat(SPACE), 0);
        fault("hat " + "9".repeat(SPACE - 4), 4);
        items(Texts.filled("", "", SPACE), 0);
    }

    private static void roomOfNothing() {
        GuestParties x = Texts.room("guests 2;ring;");
        Due.is("4 no byte", x.room(), 0);
        Due.is("4 as at first", x.count(0), 4);
        Due.is("4 as at first", x.law(4), 0);
        Due.is("4 a blank", Texts.tell(x, " "), 0);
        Due.is("4 one item", Texts.tell(x, "ring;"), 1);
    }

    private static void guestsOneToEight() {
        GuestParties x = new GuestParties();
        Due.is("4 guests at first", x.count(0), 4);
        for (int n = 1; n <= 8; n++) {
            Due.is("4 guests " + n, Texts.tell(x, "guests " + n + ";"), 1);
            Due.is("4 guests are " + n, x.count(0), n);
            Due.is("4 all alone", x.now(0), n);
        }
        for (int n : new int[] {0, 9, 10, 18, 80, 99, 100, 264}) {
            fault("guests " + n + ";", 7);
        }
    }

    private static void guestsComeFirst() {
        items("   guests 2;", 1);
        items("guests 2;ring;", 2);
        fault("guests 2;guests 2;", 9);
        fault("guests 2;ring;guests 2;", 14);
        fault("guests 4; guests 4;", 10);
        fault("ring;guests 4;", 5);
        fault("worth 0 1 1;guests 4;", 12);
        fault("guests guests 4;", 7);
    }

    private static void hatsOfGuests() {
        for (int n = 1; n <= 8; n++) {
            String told = "guests " + n + ";hat ";
            items(told + "0 1;", 2);
            items(told + (n - 1) + " 1;", 2);
            fault(told + n + " 1;", 13);
            fault(told + 99 + " 1;", 13);
        }
        items("hat 3 1;", 1);
        fault("hat 4 1;", 4);
        GuestParties x = Texts.room("guests 8;");
        Due.is("4 four again, where guests are not told", Texts.tell(x, "hat 4 1;"), -14);
    }

    private static void hatsZeroToFive() {
        GuestParties x = new GuestParties();
        Due.is("1 hat 0 at first", x.rate(2, 0), 1);
        for (int hat = 0; hat <= 5; hat++) {
            Due.is("4 hat " + hat, Texts.tell(x, "hat 2 " + hat + ";"), 1);
            Due.is("4 has hat " + hat, x.rate(2, 2), 1 - hat);
            Due.is("4 the others have none", x.rate(2, 1), 1);
        }
        for (int hat : new int[] {6, 7, 8, 9, 10, 50, 99, 100}) {
            fault("hat 2 " + hat + ";", 6);
        }
    }

    private static void numberLawsOneToEight() {
        for (int what = 0; what < 3; what++) {
            String word = NUMBER_LAWS.get(what);
            GuestParties x = new GuestParties();
            Due.is("5 " + word + " is not told", x.law(what), 0);
            for (int number = 1; number <= 8; number++) {
                // They may go beyond how many guests there are.
                Due.is("4 " + word, Texts.tell(x, "guests 1;" + word + " " + number + ";"), 2);
                Due.is("5 " + word, x.law(what), number);
            }
            for (int number : new int[] {0, 9, 10, 11, 88, 99, 100}) {
                fault(word + " " + number + ";", word.length() + 1);
            }
        }
    }

    private static void onceEachAtMost() {
        items("most 1;ring;parties 1;unlike;least 1;", 5);
        for (String word : NUMBER_LAWS) {
            String item = word + " 2;";
            fault(item + item, item.length());
            fault(item + word + " 3;", item.length());
            // The word can't stand there: what is behind it does not count.
            fault(item + word + " 9;", item.length());
            fault(item + word, item.length());
            fault(item + "hat 0 1;" + item, item.length() + 8);
        }
        for (String word : PLAIN_LAWS) {
            String item = word + ";";
            fault(item + item, item.length());
            fault(item + "hat 0 1; " + item, item.length() + 9);
        }
        GuestParties x = Texts.room("parties 2;least 1;most 3;unlike;ring;");
        Due.is("4 once in each text", Texts.tell(x, "parties 2;least 1;most 3;unlike;ring;"), 5);
        Due.is("4 a FAULT", Texts.tell(x, "ring;ring;"), -15);
        Due.is("4 once, behind a FAULT", Texts.tell(x, "ring;"), 1);
    }

    private static void maybeToldAgain() {
        items("hat 0 1;hat 0 1;", 2);
        items("together 0 1;together 0 1;together 1 0;", 3);
        items("apart 0 1;apart 0 1;apart 1 0;", 3);
        items("together 0 1;apart 0 1;", 2);
        items("worth 0 1 1;worth 0 1 1;worth 1 0 1;", 3);
        items("cost 0 1 1;cost 0 1 1;worth 1 0 1;", 3);
    }

    private static void twoGuestsThatAreUnlike() {
        for (String word : List.of("together", "apart", "worth", "cost")) {
            String end = word.equals("worth") || word.equals("cost") ? " 1;" : ";";
            for (int n = 1; n <= 8; n++) {
                String ahead = "guests " + n + ";" + word + " ";
                int a = ahead.length();
                for (int g = 0; g < n; g++) {
                    fault(ahead + g + " " + g + end, a + 2);
                    fault(ahead + g + " " + n + end, a + 2);
                    fault(ahead + n + " " + g + end, a);
                }
                fault(ahead + n + " " + n + end, a);
                if (n > 1) {
                    items(ahead + 0 + " " + (n - 1) + end, 2);
                    items(ahead + (n - 1) + " " + 0 + end, 2);
                    items(ahead + (n - 1) + " " + (n - 2) + end, 2);
                }
            }
            items(word + " 3 0" + end, 1);
            fault(word + " 0 4" + end, word.length() + 3);
        }
    }

    private static void worthsZeroToNine() {
        GuestParties x = new GuestParties();
        Due.is("1 worth 0 at first", x.pair(0, 3, 2), 0);
        for (int worth = 0; worth <= 9; worth++) {
            Due.is("4 worth " + worth, Texts.tell(x, "worth 0 3 " + worth + ";"), 1);
            Due.is("6 worth " + worth, x.pair(0, 3, 2), worth);
            Due.is("4 cost " + worth, Texts.tell(x, "cost 3 0 " + worth + ";"), 1);
            Due.is("6 cost " + worth, x.pair(0, 3, 2), -worth);
        }
        for (int worth : new int[] {10, 11, 90, 99, 100}) {
            fault("worth 0 3 " + worth + ";", 10);
            fault("cost 0 3 " + worth + ";", 9);
        }
        fault("worth 0 3 -1;", 10);
    }

    private static void whatIsLaterCounts() {
        GuestParties x = Texts.room("worth 0 1 9;cost 0 1 4;cost 2 3 5;worth 3 2 6;worth 1 2 7;worth 2 1 0;hat 1 5;hat 1 2;");
        Due.is("4 cost behind worth", x.pair(0, 1, 2), -4);
        Due.is("4 worth behind cost, turned", x.pair(2, 3, 2), 6);
        Due.is("4 nothing behind worth", x.pair(1, 2, 2), 0);
        Due.is("4 hat behind hat", x.rate(2, 1), -1);
    }

    // ---- TOKENS

    private static boolean isLetter(int sign) {
        return 'a' <= sign && sign <= 'z';
    }

    private static boolean isDigit(int sign) {
        return '0' <= sign && sign <= '9';
    }

    private static void blankIsThirtyTwoAlone() {
        for (int sign = 0; sign < 256; sign++) {
            String one = String.valueOf((char) sign);
            if (sign == 32) {
                items(one, 0);
                items("ring;" + one, 1);
                items("guests" + one + "3;", 1);
            } else {
                fault(one, 0);
                fault("ring;" + one, 5);
                fault("  " + one + "ring;", 2);
            }
        }
        items(" hat  0   1    ; ", 1);
        // Where TOKENS can be told apart, there may be none.
        items("hat0 1;ring;", 2);
    }

    private static void bytesBehindAWord() {
        for (int sign = 0; sign < 256; sign++) {
            String text = "ring" + (char) sign + ";";
            if (sign == 32) {
                items(text, 1);
            } else if (isLetter(sign)) {
                fault(text, 0);
            } else {
                fault(text, sign == ';' ? 5 : 4);
            }
        }
    }

    private static void bytesWhereANumberIsDue() {
        for (int sign = 0; sign < 256; sign++) {
            String text = "least " + (char) sign + ";";
            if ('1' <= sign && sign <= '8') {
                items(text, 1);
            } else {
                fault(text, sign == 32 ? 7 : 6);
            }
        }
    }

    private static void bytesBehindANumber() {
        for (int sign = 0; sign < 256; sign++) {
            String text = "least 1" + (char) sign + ";";
            if (sign == 32) {
                items(text, 1);
            } else if (isDigit(sign)) {
                fault(text, 6);
            } else {
                fault(text, sign == ';' ? 8 : 7);
            }
        }
    }

    private static void wordsToTheLetter() {
        String[] all = {"guests 4;", "hat 0 1;", "parties 1;", "least 1;", "most 1;", "unlike;", "ring;",
            "together 0 1;", "apart 0 1;", "worth 0 1 1;", "cost 0 1 1;"};
        for (String item : all) {
            items(item, 1);
            fault(item.substring(1), 0);
            fault("a" + item, 0);
            fault(item.substring(0, 1).toUpperCase() + item.substring(1), 0);
            int end = item.replaceAll("[^a-z].*", "").length();
            fault(item.substring(0, end) + "s" + item.substring(end), 0);
            fault(item.substring(0, end - 1) + item.substring(end), 0);
            fault(item.substring(0, end - 1) + "x" + item.substring(end), 0);
            fault(item.substring(0, 2) + " " + item.substring(2), 0);
        }
        fault("abc;", 0);
        fault("a", 0);
        fault("zz 1;", 0);
        fault("hat hat 1;", 4);
        fault("hat wrong 1;", 4);
    }

    private static void numbersWithAZeroAhead() {
        items("hat 0 0;", 1);
        items("worth 0 1 0;", 1);
        for (String number : new String[] {"00", "01", "02", "000", "001", "0000000000"}) {
            fault("hat " + number + " 1;", 4);
            fault("hat 1 " + number + ";", 6);
            fault("guests " + number + ";", 7);
            fault("parties " + number + ";", 8);
            fault("worth 0 1 " + number + ";", 10);
        }
        items("hat 0 1;", 1);
        items("hat 0 0 ;", 1);
    }

    private static void numbersThatAreTooGreat() {
        // The last of these would be small numbers, were they wrapped round.
        String[] numbers = {"10", "99", "100", "101", "999", "1000", "4294967297", "4294967298",
            "18446744073709551617", "1" + "0".repeat(32), "1" + "0".repeat(64)};
        for (String number : numbers) {
            fault("hat " + number + " 1;", 4);
            fault("hat 1 " + number + ";", 6);
            fault("guests " + number + ";", 7);
            fault("most " + number + ";", 5);
            fault("cost 0 " + number + " 1;", 7);
            fault("cost 0 1 " + number + ";", 9);
        }
        // No NUMBER can stand here, be it great or small.
        fault("ring 1;", 5);
        fault("ring 100;", 5);
        fault("1;", 0);
        fault("100;", 0);
    }

    private static void itemsEndWithSemicolon() {
        fault(";", 0);
        fault(" ;", 1);
        fault("ring;;", 5);
        fault("ring; ;", 6);
        fault("ring unlike;", 5);
        fault("guests 4 ring;", 9);
        fault("hat 0 1 2;", 8);
        fault("hat 0 1 hat 1 1;", 8);
        fault("hat 0;", 5);
        fault("hat;", 3);
        fault("guests;", 6);
        fault("parties;", 7);
        fault("parties 1 1;", 10);
        fault("together 0;", 10);
        fault("together 0 1 2;", 13);
        fault("worth 0 1;", 9);
        fault("worth 0 1 2 3;", 12);
        fault("unlike 0;", 7);
    }

    private static void textsThatEndTooEarly() {
        cutEverywhere("guests 8;hat 7 5;parties 2;least 1;most 8;unlike;ring;");
        cutEverywhere("together 0 3;apart 2 3;worth 0 1 9;cost 0 1 0;");
        cutEverywhere("  ring ;  hat  0   3  ;   unlike;");
        fault("ring   ", 7);
        fault("hat 0 ", 6);
        fault("hat 0 1   ", 10);
    }

    /** Each beginning of a text: a word that is cut is none of the words, else the text ends too early. */
    private static void cutEverywhere(String text) {
        int items = 0;
        int itemsEnd = 0;
        for (int length = 0; length <= text.length(); length++) {
            String cut = text.substring(0, length);
            if (cut.endsWith(";")) {
                items++;
                itemsEnd = length;
            }
            if (cut.substring(itemsEnd).isBlank()) {
                items(cut, items);
            } else {
                boolean cutsWord = isLetter(text.charAt(length - 1)) && isLetter(text.charAt(length));
                fault(cut, cutsWord ? length - lettersAtEnd(cut) : length);
            }
        }
    }

    private static int lettersAtEnd(String text) {
        int letters = 0;
        while (letters < text.length() && isLetter(text.charAt(text.length() - 1 - letters))) {
            letters++;
        }
        return letters;
    }

    private static void theFirstFaultCounts() {
        fault("hat 9 9 9 rong", 4);
        fault("hat 0 9;rong;", 6);
        fault("ring;ring;!", 5);
        fault("! ring;ring;", 0);
        fault("ring;most 2;ring;most 2;", 12);
        // What is told before is counted, the fault's place from the text's beginning on.
        fault("guests 2;hat 1 1;hat 2 1;", 21);
    }
}
