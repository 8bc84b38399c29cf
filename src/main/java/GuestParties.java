/**
 * Guests who stand about in parties, the laws of how they may, and what
 * follows from them. The document (../shared/DOC.md) tells what each call
 * answers; words in capitals here are its words.
 */
public final class GuestParties {
    public static final int BAD = -1, STATE = -2, FULL = -3, NONE = -9;
    public static final int NO = -1000000;

    private static final int MOST_GUESTS = 8;
    private static final int NOT_SO_MANY = -5;
    private static final int LONGEST_EVENING = 99;

    private static final int GUEST = 0, TALKER = 1, LISTENER = 2, SINGER = 3, DOG = 4, HOSTESS = 5;

    private Rules rules = new Rules();
    // A text is read into this one, so that a FAULT leaves the other as it was.
    private Rules spareRules = new Rules();
    private final Text text = new Text();
    private final Reader reader = new Reader(text, spareRules);
    private final Ways ways = new Ways(rules);
    private final Standing standing = new Standing();
    private final Sights sights = new Sights();
    private final Lot chance = new Lot();
    private final Image imageZero = new Image();
    private final Image imageOne = new Image();
    private final Meeting meeting = new Meeting();
    private final Departure departure = new Departure();
    private long traced = 0;

    public GuestParties() {
        standing.scatter(rules.guests());
    }

    // ---- the room

    public int type(long v, int n) {
        if (n < 1 || n > 8) {
            return BAD;
        }
        if (!text.hasSpaceFor(n)) {
            return FULL;
        }
        for (int i = n - 1; i >= 0; i--) {
            text.append((int) (v >>> (8 * i)) & 255);
        }
        return text.length();
    }

    public int clear() {
        int had = text.length();
        text.empty();
        return had;
    }

    public int room() {
        int items = reader.readInto(spareRules);
        if (items < 0) {
            return items;
        }
        Rules old = rules;
        rules = spareRules;
        spareRules = old;
        text.empty();
        standing.scatter(rules.guests());
        sights.empty();
        imageZero.drop();
        imageOne.drop();
        ways.obey(rules);
        return items;
    }

    public int law(int what) {
        return what >= 0 && what < Rules.LAWS ? rules.lawOf(what) : BAD;
    }

    public int pair(int a, int b, int what) {
        if (!areTwoGuests(a, b)) {
            return NO;
        }
        switch (what) {
            case 0: return rules.areTogether(a, b) ? 1 : 0;
            case 1: return rules.areApart(a, b) ? 1 : 0;
            case 2: return rules.worthOf(a, b);
            default: return NO;
        }
    }

    // ---- now

    public int party(int g) {
        return isGuest(g) ? standing.partyOf(g) : BAD;
    }

    public int goes(int g, int to) {
        if (!isGuest(g) || !isGuest(to)) {
            return BAD;
        }
        boolean isThere = g == to ? standing.isAlone(g) : standing.partyOf(g) == standing.partyOf(to);
        if (isThere) {
            return STATE;
        }
        standing.sendTo(g, to);
        return standing.partyOf(g);
    }

    public int join(int p, int q) {
        if (!isParty(p) || !isParty(q) || p == q) {
            return BAD;
        }
        standing.merge(p, q);
        return standing.parties();
    }

    public int part(int p, int set) {
        if (!isParty(p)) {
            return BAD;
        }
        int whole = standing.setOf(p);
        if (set == 0 || set == whole || (set & ~whole) != 0) {
            return STATE;
        }
        standing.splitOff(set);
        return standing.parties();
    }

    public int now(int what) {
        switch (what) {
            case 0: return standing.parties();
            case 1: return ways.placeOf(standing.code()) != NONE ? 1 : 0;
            case 2: return rules.worthOfAll(standing);
            case 3: return standing.loners();
            default: return NO;
        }
    }

    // ---- all ways

    public int many(int parties) {
        if (parties < 0 || parties > MOST_GUESTS) {
            return BAD;
        }
        return parties == 0 ? ways.total() : ways.totalWith(parties);
    }

    public int rank() {
        return ways.placeOf(standing.code());
    }

    public int nth(int i, int g) {
        if (i < 0 || !isGuest(g)) {
            return BAD;
        }
        return i < ways.total() ? Standing.partyIn(ways.codeAt(i), g) : NOT_SO_MANY;
    }

    public int draw() {
        if (ways.total() == 0) {
            return STATE;
        }
        int number = chance.nextBelow(ways.total());
        standing.standAs(ways.codeAt(number));
        return number;
    }

    public int lot(int v) {
        int was = chance.value();
        chance.become(v);
        return was;
    }

    public int saw(int a, int b, int is) {
        if (!areTwoGuests(a, b) || is < 0 || is > 1) {
            return BAD;
        }
        if (sights.areFull()) {
            return FULL;
        }
        sights.add(a, b, is == 1);
        return sights.size();
    }

    public int forget() {
        int had = sights.size();
        sights.empty();
        return had;
    }

    public int left() {
        return ways.fitting(sights);
    }

    public int sure(int a, int b) {
        return areTwoGuests(a, b) ? ways.certain(sights, a, b) : BAD;
    }

    // ---- two standings

    public int two(int image, int what, int g) {
        if (!isImage(image) || what < 0 || what > 1 || !isGuest(g)) {
            return BAD;
        }
        Image kept = imageOf(image);
        if (!kept.isKept()) {
            return STATE;
        }
        meeting.compare(standing, kept.standing());
        return what == 0 ? meeting.finer().partyOf(g) : meeting.coarser().partyOf(g);
    }

    public int between(int image) {
        if (!isImage(image)) {
            return BAD;
        }
        Image kept = imageOf(image);
        if (!kept.isKept()) {
            return STATE;
        }
        meeting.compare(standing, kept.standing());
        return meeting.standingsWithin();
    }

    public int fewest(int image) {
        if (!isImage(image)) {
            return BAD;
        }
        Image kept = imageOf(image);
        if (!kept.isKept()) {
            return STATE;
        }
        return Meeting.fewestGoings(standing, kept.standing());
    }

    // ---- worths, leaving, evenings

    public int best(int g) {
        if (g < -1 || g >= rules.guests() || ways.total() == 0) {
            return NO;
        }
        return g == -1 ? ways.greatestWorth() : Standing.partyIn(ways.worthiestCode(), g);
    }

    public int leaving(int g) {
        if (g < -1 || g >= rules.guests()) {
            return BAD;
        }
        departure.run(rules, standing);
        if (g >= 0) {
            return departure.standing().partyOf(g);
        }
        return departure.hasStopped() ? departure.goings() : NONE;
    }

    public int evening(int n) {
        if (n < 1 || n > LONGEST_EVENING) {
            return BAD;
        }
        int guests = rules.guests();
        int withLoner = 0;
        for (int step = 0; step < n; step++) {
            int g = chance.nextBelow(guests);
            int to = chance.nextBelow(guests);
            standing.sendTo(g, to);
            if (standing.loners() > 0) {
                withLoner++;
            }
        }
        return withLoner;
    }

    // ---- kinds, images

    public int rate(int kind, int g) {
        if (!isGuest(g)) {
            return NO;
        }
        switch (kind) {
            case GUEST: return rateAsGuest(g);
            case TALKER: return rateAsTalker(g);
            case LISTENER: return rateAsListener(g);
            case SINGER: return rateAsSinger(g);
            case DOG: return rateAsDog(g);
            case HOSTESS: return rateAsHostess(g);
            default: return NO;
        }
    }

    public int keep(int image) {
        if (!isImage(image)) {
            return BAD;
        }
        imageOf(image).take(standing, sights, chance);
        return standing.parties();
    }

    public int back(int image) {
        if (!isImage(image)) {
            return BAD;
        }
        Image kept = imageOf(image);
        if (!kept.isKept()) {
            return STATE;
        }
        kept.giveBack(standing, sights, chance);
        return standing.parties();
    }

    public int count(int what) {
        switch (what) {
            case 0: return rules.guests();
            case 1: return sights.size();
            case 2: return rules.pairsTogether();
            case 3: return rules.pairsApart();
            case 4: return text.length();
            default: return BAD;
        }
    }

    public long trace() {
        return traced;
    }

    // ---- helpers

    private boolean isGuest(int g) {
        return g >= 0 && g < rules.guests();
    }

    private boolean areTwoGuests(int a, int b) {
        return isGuest(a) && isGuest(b) && a != b;
    }

    private boolean isParty(int p) {
        return p >= 0 && p < standing.parties();
    }

    private static boolean isImage(int image) {
        return image == 0 || image == 1;
    }

    private Image imageOf(int image) {
        return image == 0 ? imageZero : imageOne;
    }

    private int rateAsGuest(int g) {
        traced += 1;
        return Integer.bitCount(standing.setOf(standing.partyOf(g)));
    }

    private int rateAsTalker(int g) {
        traced += 10;
        return rateAsGuest(g) + rules.worthWith(g, standing.setOf(standing.partyOf(g)));
    }

    private int rateAsListener(int g) {
        traced += 100;
        return rateAsGuest(g) - rules.hatOf(g);
    }

    private int rateAsSinger(int g) {
        traced += 1000;
        return 2 * rateAsTalker(g);
    }

    private int rateAsDog(int g) {
        traced += 10000;
        return rateAsListener(g) + standing.partyOf(g);
    }

    private int rateAsHostess(int g) {
        traced += 100000;
        return rateAsGuest(g) + standing.parties();
    }

    /** THE TEXT. */
    private static final class Text {
        static final int SPACE = 300;
        static final int NO_BYTE = -1;

        private final int[] bytes = new int[SPACE];
        private int length = 0;

        int length() {
            return length;
        }

        boolean hasSpaceFor(int more) {
            return more <= SPACE - length;
        }

        void append(int value) {
            if (length < SPACE) {
                bytes[length] = value;
                length++;
            }
        }

        int byteAt(int place) {
            return place >= 0 && place < length ? bytes[place] : NO_BYTE;
        }

        void empty() {
            length = 0;
        }
    }

    /** Reads THE TEXT token by token; the first token that can't stand where it stands ends it. */
    private static final class Reader {
        private static final int GUESTS = 0, HAT = 1, PARTIES = 2, LEAST = 3, MOST = 4, UNLIKE = 5, RING = 6;
        private static final int TOGETHER = 7, APART = 8, WORTH = 9, COST = 10;
        private static final int WORDS = 11;
        private static final int NUMBER = 11, SEMICOLON = 12, END = 13, WRONG = 14;
        private static final int BLANK = 32;
        private static final int HIGHEST_NUMBER = 99;
        private static final int HIGHEST_HAT = 5;
        private static final int HIGHEST_WORTH = 9;
        private static final int MOST_NUMBERS = 3;

        private final Text text;
        // The NUMBERS of the ITEM that is read.
        private final int[] numbers = new int[MOST_NUMBERS];
        private Rules rules;
        private int next = 0;
        private int token = END;
        private int tokenStart = 0;
        private int value = 0;

        Reader(Text text, Rules rules) {
            this.text = text;
            this.rules = rules;
        }

        /** How many ITEMS there are, or -10 less FAULT. */
        int readInto(Rules toFill) {
            rules = toFill;
            rules.reset();
            next = 0;
            int items = 0;
            advance();
            while (token != END && items < Text.SPACE) {
                int word = token;
                if (!mayBegin(word, items) || !readNumbers(word) || !readSemicolon()) {
                    return -10 - tokenStart;
                }
                tell(word);
                items++;
                advance();
            }
            return items;
        }

        private boolean mayBegin(int word, int items) {
            switch (word) {
                case GUESTS: return items == 0;
                case PARTIES: return rules.lawOf(Rules.PARTIES) == 0;
                case LEAST: return rules.lawOf(Rules.LEAST) == 0;
                case MOST: return rules.lawOf(Rules.MOST) == 0;
                case UNLIKE: return rules.lawOf(Rules.UNLIKE) == 0;
                case RING: return rules.lawOf(Rules.RING) == 0;
                default: return word < WORDS;
            }
        }

        private boolean readNumbers(int word) {
            int due = numbersOf(word);
            for (int i = 0; i < due && i < MOST_NUMBERS; i++) {
                advance();
                if (token != NUMBER || value < lowest(word) || value > highest(word, i)) {
                    return false;
                }
                boolean isOfPair = i == 1 && word != HAT;
                if (isOfPair && value == numbers[0]) {
                    return false;
                }
                numbers[i] = value;
            }
            return true;
        }

        private boolean readSemicolon() {
            advance();
            return token == SEMICOLON;
        }

        private void tell(int word) {
            switch (word) {
                case GUESTS: rules.setGuests(numbers[0]); break;
                case HAT: rules.setHat(numbers[0], numbers[1]); break;
                case PARTIES: rules.setLaw(Rules.PARTIES, numbers[0]); break;
                case LEAST: rules.setLaw(Rules.LEAST, numbers[0]); break;
                case MOST: rules.setLaw(Rules.MOST, numbers[0]); break;
                case UNLIKE: rules.setLaw(Rules.UNLIKE, 1); break;
                case RING: rules.setLaw(Rules.RING, 1); break;
                case TOGETHER: rules.putTogether(numbers[0], numbers[1]); break;
                case APART: rules.putApart(numbers[0], numbers[1]); break;
                case WORTH: rules.setWorth(numbers[0], numbers[1], numbers[2]); break;
                case COST: rules.setWorth(numbers[0], numbers[1], -numbers[2]); break;
                default: break;
            }
        }

        private static int numbersOf(int word) {
            switch (word) {
                case UNLIKE: case RING: return 0;
                case GUESTS: case PARTIES: case LEAST: case MOST: return 1;
                case HAT: case TOGETHER: case APART: return 2;
                default: return MOST_NUMBERS;
            }
        }

        private static int lowest(int word) {
            switch (word) {
                case GUESTS: case PARTIES: case LEAST: case MOST: return 1;
                default: return 0;
            }
        }

        private int highest(int word, int i) {
            int lastGuest = rules.guests() - 1;
            switch (word) {
                case GUESTS: case PARTIES: case LEAST: case MOST: return MOST_GUESTS;
                case HAT: return i == 0 ? lastGuest : HIGHEST_HAT;
                default: return i < 2 ? lastGuest : HIGHEST_WORTH;
            }
        }

        private void advance() {
            while (next < Text.SPACE && text.byteAt(next) == BLANK) {
                next++;
            }
            tokenStart = next;
            int first = text.byteAt(next);
            if (first == Text.NO_BYTE) {
                token = END;
            } else if (first == ';') {
                next++;
                token = SEMICOLON;
            } else if (isLetter(first)) {
                token = scanWord();
            } else if (isDigit(first)) {
                token = scanNumber();
            } else {
                token = WRONG;
            }
        }

        private int scanWord() {
            while (next < Text.SPACE && isLetter(text.byteAt(next))) {
                next++;
            }
            for (int word = 0; word < WORDS; word++) {
                if (isSpelled(spelling(word))) {
                    return word;
                }
            }
            return WRONG;
        }

        private boolean isSpelled(String word) {
            if (word.length() != next - tokenStart) {
                return false;
            }
            for (int i = 0; i < word.length(); i++) {
                if (word.charAt(i) != text.byteAt(tokenStart + i)) {
                    return false;
                }
            }
            return true;
        }

        private int scanNumber() {
            value = 0;
            while (next < Text.SPACE && isDigit(text.byteAt(next))) {
                // A long row of digits must not wrap round to a small number.
                if (value <= HIGHEST_NUMBER) {
                    value = value * 10 + text.byteAt(next) - '0';
                }
                next++;
            }
            boolean hasZeroAhead = text.byteAt(tokenStart) == '0' && next - tokenStart > 1;
            return value > HIGHEST_NUMBER || hasZeroAhead ? WRONG : NUMBER;
        }

        private static boolean isLetter(int sign) {
            return sign >= 'a' && sign <= 'z';
        }

        private static boolean isDigit(int sign) {
            return sign >= '0' && sign <= '9';
        }

        private static String spelling(int word) {
            switch (word) {
                case GUESTS: return "guests";
                case HAT: return "hat";
                case PARTIES: return "parties";
                case LEAST: return "least";
                case MOST: return "most";
                case UNLIKE: return "unlike";
                case RING: return "ring";
                case TOGETHER: return "together";
                case APART: return "apart";
                case WORTH: return "worth";
                case COST: return "cost";
                default: return "";
            }
        }
    }

    /** All that THE TEXT tells: GUESTS, HATS, LAWS and WORTHS. Sets of guests are bits. */
    private static final class Rules {
        static final int PARTIES = 0, LEAST = 1, MOST = 2, UNLIKE = 3, RING = 4;
        static final int LAWS = 5;
        private static final int GUESTS_AT_FIRST = 4;

        private final int[] hats = new int[MOST_GUESTS];
        private final int[] laws = new int[LAWS];
        private final int[] together = new int[MOST_GUESTS];
        private final int[] apart = new int[MOST_GUESTS];
        private final int[][] worths = new int[MOST_GUESTS][MOST_GUESTS];
        private int guests = GUESTS_AT_FIRST;

        void reset() {
            guests = GUESTS_AT_FIRST;
            for (int what = 0; what < LAWS; what++) {
                laws[what] = 0;
            }
            for (int a = 0; a < MOST_GUESTS; a++) {
                hats[a] = 0;
                together[a] = 0;
                apart[a] = 0;
                for (int b = 0; b < MOST_GUESTS; b++) {
                    worths[a][b] = 0;
                }
            }
        }

        int guests() {
            return guests;
        }

        void setGuests(int number) {
            if (number >= 1 && number <= MOST_GUESTS) {
                guests = number;
            }
        }

        int hatOf(int g) {
            return isOne(g) ? hats[g] : 0;
        }

        void setHat(int g, int hat) {
            if (isOne(g)) {
                hats[g] = hat;
            }
        }

        int lawOf(int what) {
            return what >= 0 && what < LAWS ? laws[what] : 0;
        }

        void setLaw(int what, int value) {
            if (what >= 0 && what < LAWS) {
                laws[what] = value;
            }
        }

        boolean areTogether(int a, int b) {
            return isOne(a) && (together[a] & 1 << b) != 0;
        }

        void putTogether(int a, int b) {
            if (isOne(a) && isOne(b)) {
                together[a] |= 1 << b;
                together[b] |= 1 << a;
            }
        }

        boolean areApart(int a, int b) {
            return isOne(a) && (apart[a] & 1 << b) != 0;
        }

        void putApart(int a, int b) {
            if (isOne(a) && isOne(b)) {
                apart[a] |= 1 << b;
                apart[b] |= 1 << a;
            }
        }

        int worthOf(int a, int b) {
            return isOne(a) && isOne(b) ? worths[a][b] : 0;
        }

        void setWorth(int a, int b, int worth) {
            if (isOne(a) && isOne(b)) {
                worths[a][b] = worth;
                worths[b][a] = worth;
            }
        }

        /** The WORTHS of a guest with the others of a set, added. */
        int worthWith(int g, int set) {
            if (!isOne(g)) {
                return 0;
            }
            int sum = 0;
            for (int other = 0; other < guests && other < MOST_GUESTS; other++) {
                if (other != g && (set & 1 << other) != 0) {
                    sum += worths[g][other];
                }
            }
            return sum;
        }

        int worthOfAll(Standing standing) {
            int twice = 0;
            for (int g = 0; g < guests; g++) {
                twice += worthWith(g, standing.setOf(standing.partyOf(g)));
            }
            return twice / 2;
        }

        int pairsTogether() {
            return pairsIn(together);
        }

        int pairsApart() {
            return pairsIn(apart);
        }

        /** Whether a guest may come to a set of guests below it, by what two guests may be to one another. */
        boolean mayCome(int g, int set) {
            if (!isOne(g)) {
                return false;
            }
            int below = (1 << g) - 1;
            boolean isMissed = (together[g] & below & ~set) != 0;
            return !isMissed && (apart[g] & set) == 0 && !meetsItsHat(g, set);
        }

        private boolean meetsItsHat(int g, int set) {
            if (laws[UNLIKE] == 0) {
                return false;
            }
            for (int other = 0; other < g && g < MOST_GUESTS; other++) {
                if ((set & 1 << other) != 0 && hats[other] == hats[g]) {
                    return true;
                }
            }
            return false;
        }

        private static int pairsIn(int[] sets) {
            int twice = 0;
            for (int set : sets) {
                twice += Integer.bitCount(set);
            }
            return twice / 2;
        }

        private static boolean isOne(int g) {
            return g >= 0 && g < MOST_GUESTS;
        }
    }

    /**
     * Who stands in which PARTY. Its code is its ROW as one number, three bits
     * a guest with guest 0 the highest, so that codes are in the order of ROWS.
     */
    private static final class Standing {
        // No PARTY has this number: it marks those who are to be one of their own.
        private static final int OWN = MOST_GUESTS;

        private final int[] row = new int[MOST_GUESTS];
        private final int[] sets = new int[MOST_GUESTS];
        private final int[] labels = new int[MOST_GUESTS];
        private int guests = 1;
        private int parties = 1;

        static int partyIn(int code, int g) {
            return code >> shiftOf(g) & 7;
        }

        static int shiftOf(int g) {
            return 3 * (MOST_GUESTS - 1 - g);
        }

        int guests() {
            return guests;
        }

        int parties() {
            return parties;
        }

        int partyOf(int g) {
            return g >= 0 && g < guests ? row[g] : 0;
        }

        int setOf(int p) {
            return p >= 0 && p < parties ? sets[p] : 0;
        }

        boolean isAlone(int g) {
            return Integer.bitCount(setOf(partyOf(g))) == 1;
        }

        int loners() {
            int alone = 0;
            for (int p = 0; p < parties; p++) {
                if (Integer.bitCount(setOf(p)) == 1) {
                    alone++;
                }
            }
            return alone;
        }

        int code() {
            int code = 0;
            for (int g = 0; g < guests; g++) {
                code |= partyOf(g) << shiftOf(g);
            }
            return code;
        }

        /** So many guests, all alone. */
        void scatter(int number) {
            guests = Math.max(1, Math.min(MOST_GUESTS, number));
            for (int g = 0; g < guests; g++) {
                labels[g] = g;
            }
            settle();
        }

        void standAs(int code) {
            for (int g = 0; g < guests; g++) {
                labels[g] = partyIn(code, g);
            }
            settle();
        }

        void standLike(Standing other) {
            guests = other.guests();
            standAs(other.code());
        }

        /** A guest to the PARTY of another one, or alone, if that one is itself. */
        void sendTo(int g, int to) {
            sendToParty(g, g == to ? OWN : partyOf(to));
        }

        void sendAlone(int g) {
            sendToParty(g, OWN);
        }

        void sendToParty(int g, int p) {
            relabel();
            if (g >= 0 && g < guests) {
                labels[g] = p;
            }
            settle();
        }

        void merge(int p, int q) {
            for (int g = 0; g < guests; g++) {
                labels[g] = row[g] == q ? p : row[g];
            }
            settle();
        }

        void splitOff(int set) {
            for (int g = 0; g < guests; g++) {
                labels[g] = (set & 1 << g) != 0 ? OWN : row[g];
            }
            settle();
        }

        /** Two guests are together just where they are in both. */
        void meet(Standing a, Standing b) {
            guests = a.guests();
            for (int g = 0; g < guests; g++) {
                labels[g] = a.partyOf(g) * MOST_GUESTS + b.partyOf(g);
            }
            settle();
        }

        /** The PARTIES of another standing come together, each with all whom they touch. */
        void mergeAlong(Standing other) {
            for (int g = 1; g < guests; g++) {
                int least = Integer.numberOfTrailingZeros(other.setOf(other.partyOf(g)));
                if (partyOf(least) != partyOf(g)) {
                    merge(partyOf(least), partyOf(g));
                }
            }
        }

        private void relabel() {
            for (int g = 0; g < guests; g++) {
                labels[g] = row[g];
            }
        }

        // Numbers the PARTIES anew by their least guests, whatever the labels are.
        private void settle() {
            parties = 0;
            for (int g = 0; g < guests; g++) {
                int first = firstLabelledLike(g);
                if (first == g) {
                    sets[parties] = 0;
                    row[g] = parties;
                    parties++;
                } else {
                    row[g] = row[first];
                }
                sets[row[g]] |= 1 << g;
            }
        }

        private int firstLabelledLike(int g) {
            for (int other = 0; other < g; other++) {
                if (labels[other] == labels[g]) {
                    return other;
                }
            }
            return g;
        }
    }

    /** What was SEEN. */
    private static final class Sights {
        private static final int SPACE = 10;

        private final int[] ones = new int[SPACE];
        private final int[] others = new int[SPACE];
        private final boolean[] together = new boolean[SPACE];
        private int size = 0;

        int size() {
            return size;
        }

        boolean areFull() {
            return size >= SPACE;
        }

        void empty() {
            size = 0;
        }

        void add(int a, int b, boolean areTogether) {
            if (size < SPACE) {
                ones[size] = a;
                others[size] = b;
                together[size] = areTogether;
                size++;
            }
        }

        void copy(Sights from) {
            empty();
            for (int i = 0; i < from.size; i++) {
                add(from.ones[i], from.others[i], from.together[i]);
            }
        }

        boolean fit(int code) {
            for (int i = 0; i < size; i++) {
                boolean are = Standing.partyIn(code, ones[i]) == Standing.partyIn(code, others[i]);
                if (are != together[i]) {
                    return false;
                }
            }
            return true;
        }
    }

    /** All LAWFUL STANDINGS in order, gathered when they are first asked for. */
    private static final class Ways {
        // So many standings of eight guests there are, without any LAW.
        private static final int SPACE = 4140;

        private final int[] codes = new int[SPACE];
        private final int[] totals = new int[MOST_GUESTS + 1];
        private final int[] sets = new int[MOST_GUESTS];
        private Rules rules;
        private boolean areGathered = false;
        private int total = 0;
        private int greatestWorth = 0;
        private int worthiest = 0;

        Ways(Rules rules) {
            this.rules = rules;
        }

        void obey(Rules newRules) {
            rules = newRules;
            areGathered = false;
        }

        int total() {
            gather();
            return total;
        }

        int totalWith(int parties) {
            gather();
            return parties >= 0 && parties < totals.length ? totals[parties] : 0;
        }

        int codeAt(int i) {
            gather();
            return i >= 0 && i < total ? codes[i] : 0;
        }

        int greatestWorth() {
            gather();
            return greatestWorth;
        }

        int worthiestCode() {
            gather();
            return worthiest;
        }

        /** How many are ahead of this one; NONE, if it is not among them. */
        int placeOf(int code) {
            gather();
            int place = 0;
            while (place < total && codes[place] < code) {
                place++;
            }
            return place < total && codes[place] == code ? place : NONE;
        }

        int fitting(Sights sights) {
            gather();
            int number = 0;
            for (int i = 0; i < total; i++) {
                if (sights.fit(codes[i])) {
                    number++;
                }
            }
            return number;
        }

        /** Whether two are together in all that fit (1), in none of them (0), or NONE. */
        int certain(Sights sights, int a, int b) {
            gather();
            int known = NONE;
            for (int i = 0; i < total; i++) {
                if (sights.fit(codes[i])) {
                    int are = Standing.partyIn(codes[i], a) == Standing.partyIn(codes[i], b) ? 1 : 0;
                    if (known != NONE && known != are) {
                        return NONE;
                    }
                    known = are;
                }
            }
            return known;
        }

        private void gather() {
            if (areGathered) {
                return;
            }
            areGathered = true;
            total = 0;
            for (int parties = 0; parties < totals.length; parties++) {
                totals[parties] = 0;
            }
            for (int p = 0; p < MOST_GUESTS; p++) {
                sets[p] = 0;
            }
            placeFrom(0, 0, 0, 0);
        }

        // Guests below g stand: in so many parties, with that code and worth.
        private void placeFrom(int g, int parties, int code, int worth) {
            if (g >= rules.guests() || g >= MOST_GUESTS) {
                accept(parties, code, worth);
                return;
            }
            for (int p = 0; p <= parties && p < MOST_GUESTS; p++) {
                if (mayStand(g, p, parties)) {
                    place(g, p, parties, code, worth);
                }
            }
        }

        private void place(int g, int p, int parties, int code, int worth) {
            int before = sets[p];
            int newWorth = worth + rules.worthWith(g, before);
            int newCode = code | p << Standing.shiftOf(g);
            sets[p] = before | 1 << g;
            placeFrom(g + 1, Math.max(parties, p + 1), newCode, newWorth);
            sets[p] = before;
        }

        private boolean mayStand(int g, int p, int parties) {
            int most = rules.lawOf(Rules.MOST);
            if (most != 0 && Integer.bitCount(sets[p]) >= most) {
                return false;
            }
            if (!rules.mayCome(g, sets[p])) {
                return false;
            }
            return rules.lawOf(Rules.RING) == 0 || !comesAcross(p, parties);
        }

        // The next guest stands above all who stand already: it comes across a party
        // that has guests on both sides of somebody it would be together with.
        private boolean comesAcross(int p, int parties) {
            for (int b = 0; b < MOST_GUESTS; b++) {
                if ((sets[p] & 1 << b) != 0 && isSurrounded(b, p, parties)) {
                    return true;
                }
            }
            return false;
        }

        private boolean isSurrounded(int b, int p, int parties) {
            int below = (1 << b) - 1;
            for (int q = 0; q < parties && q < MOST_GUESTS; q++) {
                if (q != p && (sets[q] & below) != 0 && (sets[q] & ~below) != 0) {
                    return true;
                }
            }
            return false;
        }

        private void accept(int parties, int code, int worth) {
            if (!areLawful(parties) || total >= SPACE) {
                return;
            }
            if (total == 0 || worth > greatestWorth) {
                greatestWorth = worth;
                worthiest = code;
            }
            codes[total] = code;
            total++;
            if (parties < totals.length) {
                totals[parties]++;
            }
        }

        private boolean areLawful(int parties) {
            int told = rules.lawOf(Rules.PARTIES);
            if (told != 0 && told != parties) {
                return false;
            }
            for (int p = 0; p < parties && p < MOST_GUESTS; p++) {
                if (Integer.bitCount(sets[p]) < rules.lawOf(Rules.LEAST)) {
                    return false;
                }
            }
            return true;
        }
    }

    /** NOW, what was SEEN and THE LOT, as they were when it was kept. */
    private static final class Image {
        private final Standing standing = new Standing();
        private final Sights sights = new Sights();
        private int lotThen = 0;
        private boolean isKept = false;

        boolean isKept() {
            return isKept;
        }

        Standing standing() {
            return standing;
        }

        void drop() {
            isKept = false;
        }

        void take(Standing fromStanding, Sights fromSights, Lot fromLot) {
            standing.standLike(fromStanding);
            sights.copy(fromSights);
            lotThen = fromLot.value();
            isKept = true;
        }

        void giveBack(Standing toStanding, Sights toSights, Lot toLot) {
            toStanding.standLike(standing);
            toSights.copy(sights);
            toLot.become(lotThen);
        }
    }

    /** THE LOT. */
    private static final class Lot {
        private int value = 1;

        int value() {
            return value;
        }

        void become(int newValue) {
            value = newValue;
        }

        /** THE LOT goes on: DRAW, left over by bound. */
        int nextBelow(int bound) {
            value = value * 1103515245 + 12345;
            return bound > 0 ? (value >>> 16) % bound : 0;
        }
    }

    /** What two standings have in common. */
    private static final class Meeting {
        // In how many ways 0, 1, .. things fall into parties.
        private static final int[] FALLS = {1, 1, 2, 5, 15, 52, 203, 877, 4140};

        private final Standing finer = new Standing();
        private final Standing coarser = new Standing();

        Standing finer() {
            return finer;
        }

        Standing coarser() {
            return coarser;
        }

        void compare(Standing a, Standing b) {
            finer.meet(a, b);
            coarser.standLike(a);
            coarser.mergeAlong(b);
        }

        /** Within each party of COARSER those of FINER may fall together in any way. */
        int standingsWithin() {
            int product = 1;
            for (int p = 0; p < coarser.parties(); p++) {
                int pieces = piecesOf(coarser.setOf(p));
                product *= pieces < FALLS.length ? FALLS[pieces] : 1;
            }
            return product;
        }

        private int piecesOf(int set) {
            int pieces = 0;
            for (int p = 0; p < finer.parties(); p++) {
                if ((finer.setOf(p) & ~set) == 0) {
                    pieces++;
                }
            }
            return pieces;
        }

        static int fewestGoings(Standing from, Standing to) {
            return from.guests() - stayers(from, to, 0, 0);
        }

        /**
         * How many at most needn't GO: parties of one standing, from p on, become
         * parties of the other, each another one, and who is in both stays.
         * Only parties with a guest in common are tried, so the tries stay few.
         */
        private static int stayers(Standing from, Standing to, int p, int taken) {
            if (p >= from.parties() || p >= MOST_GUESTS) {
                return 0;
            }
            int most = stayers(from, to, p + 1, taken);
            for (int q = 0; q < to.parties(); q++) {
                int common = Integer.bitCount(from.setOf(p) & to.setOf(q));
                if (common > 0 && (taken & 1 << q) == 0) {
                    most = Math.max(most, common + stayers(from, to, p + 1, taken | 1 << q));
                }
            }
            return most;
        }
    }

    /** LEAVING. */
    private static final class Departure {
        private static final int MOST_GOINGS = 60;
        // Ahead of each GOING fewer guests stay than there are, and behind the last no more than these.
        private static final int MOST_TURNS = (MOST_GOINGS + 1) * MOST_GUESTS;

        private final Standing standing = new Standing();
        private int goings = 0;

        Standing standing() {
            return standing;
        }

        int goings() {
            return goings;
        }

        boolean hasStopped() {
            return goings < MOST_GOINGS;
        }

        void run(Rules rules, Standing from) {
            standing.standLike(from);
            goings = 0;
            int g = 0;
            int stayedInARow = 0;
            for (int turn = 0; turn < MOST_TURNS && goings < MOST_GOINGS && stayedInARow < rules.guests(); turn++) {
                if (takesTurn(rules, g)) {
                    goings++;
                    stayedInARow = 0;
                } else {
                    stayedInARow++;
                }
                g = g + 1 < rules.guests() ? g + 1 : 0;
            }
        }

        private boolean takesTurn(Rules rules, int g) {
            int home = standing.partyOf(g);
            int aim = home;
            // Alone is worth 0 and comes first: a party must be worth more than that.
            int greatest = 0;
            for (int p = 0; p < standing.parties(); p++) {
                int worth = rules.worthWith(g, standing.setOf(p));
                if (p != home && worth > greatest) {
                    greatest = worth;
                    aim = p;
                }
            }
            if (greatest <= rules.worthWith(g, standing.setOf(home))) {
                return false;
            }
            if (aim == home) {
                standing.sendAlone(g);
            } else {
                standing.sendToParty(g, aim);
            }
            return true;
        }
    }
}
