import java.util.function.ToLongFunction;

/**
 * "Refused, and nothing changes, the first of these: BAD, STATE, FULL": each call
 * that is refused, in each scene, answers as told and leaves all as it was; and so
 * do the calls that only ask.
 */
public final class RefusedTest {
    private static final int BAD = GuestParties.BAD;
    private static final int STATE = GuestParties.STATE;
    private static final int FULL = GuestParties.FULL;
    private static final int NONE = GuestParties.NONE;
    private static final int NO = GuestParties.NO;
    private static final int NOT_SO_MANY = -5;
    private static final int LOW = Integer.MIN_VALUE;
    private static final int HIGH = Integer.MAX_VALUE;

    private static Scene scene;
    private static String looks;

    public static void main(String[] args) {
        for (Scene each : Scene.all()) {
            scene = each;
            looks = Looks.of(scene.make());
            sceneIsAsItSays();
            text();
            lawsAndPairs();
            partyAndGoes();
            join();
            part();
            nowAndMany();
            nth();
            draw();
            saw();
            sure();
            two();
            betweenFewestBack();
            bestAndLeaving();
            evening();
            rate();
            keepAndCount();
            asking();
        }
        faultsOfRooms();
        Due.finish();
    }

    private static void refused(String call, ToLongFunction<GuestParties> asked, long due) {
        GuestParties x = scene.make();
        Due.is(scene.name + ": " + call, asked.applyAsLong(x), due);
        Due.same(scene.name + ": behind " + call, Looks.of(x), looks);
    }

    /** A call whose answer does not matter here, but that it changes nothing. */
    private static void asks(String call, ToLongFunction<GuestParties> asked) {
        GuestParties x = scene.make();
        asked.applyAsLong(x);
        Due.same(scene.name + ": behind " + call, Looks.of(x), looks);
    }

    private static int[] noGuests() {
        return new int[] {-1, scene.guests(), scene.guests() + 1, 8, LOW, HIGH};
    }

    private static int[] noParties() {
        return new int[] {-1, scene.parties(), scene.parties() + 1, 8, LOW, HIGH};
    }

    private static int[] beyond(int least, int most) {
        return new int[] {least - 1, most + 1, LOW, HIGH};
    }

    private static int lastGuest() {
        return scene.guests() - 1;
    }

    // The scenes' own numbers are told by hand: they must be so.
    private static void sceneIsAsItSays() {
        GuestParties x = scene.make();
        Due.holds(scene.name + ": row " + Texts.row(x), Texts.row(x).equals(scene.row));
        Due.is(scene.name + ": ways", x.many(0), scene.ways);
        for (int image = 0; image < 2; image++) {
            Due.is(scene.name + ": image " + image, x.fewest(image) != STATE ? 1 : 0, scene.isKept(image) ? 1 : 0);
        }
    }

    // ---- the room

    private static void text() {
        for (int n : beyond(1, 8)) {
            refused("type of " + n, x -> x.type(0x72696e673b72696eL, n), BAD);
        }
        if (scene.name.equals("full")) {
            for (int i = 1; i <= 8; i++) {
                int n = i;
                refused("type of " + n, x -> x.type(0x2020202020202020L, n), FULL);
            }
        }
    }

    private static void faultsOfRooms() {
        // Two scenes whose text can't be read: it stays, and so does all else.
        for (Scene each : Scene.all()) {
            scene = each;
            looks = Looks.of(scene.make());
            if (scene.name.equals("one image")) {
                refused("room, the text ends too early", GuestParties::room, -10 - 6);
            } else if (scene.name.equals("one guest")) {
                refused("room, told again", GuestParties::room, -10 - 5);
            }
            String all = "guests 7;hat 0 5;hat 6 1;parties 3;least 2;most 4;unlike;ring;together 0 1;apart 2 3;"
                    + "worth 0 3 9;cost 1 2 9;";
            faultOfRoom(all + "!", all.length());
            faultOfRoom(all + "ring;", all.length());
            faultOfRoom(all + "hat 7 0;", all.length() + 4);
            faultOfRoom(all + "worth 0 1", all.length() + 9);
        }
    }

    /** In this scene a text is typed that tells all otherwise, and can't be read at its end. */
    private static void faultOfRoom(String told, int place) {
        GuestParties notRead = typed(told);
        GuestParties x = typed(told);
        Due.is(scene.name + ": room of '" + told + "'", x.room(), -10 - place);
        Due.same(scene.name + ": behind room of '" + told + "'", Looks.of(x), Looks.of(notRead));
    }

    private static GuestParties typed(String told) {
        GuestParties x = scene.make();
        x.clear();
        Texts.type(x, told);
        return x;
    }

    private static void lawsAndPairs() {
        for (int what : beyond(0, 4)) {
            refused("law " + what, x -> x.law(what), BAD);
        }
        for (int g : noGuests()) {
            for (int what = 0; what < 3; what++) {
                int asked = what;
                refused("pair " + g + " 0 " + what, x -> x.pair(g, 0, asked), NO);
                refused("pair 0 " + g + " " + what, x -> x.pair(0, g, asked), NO);
            }
            refused("pair " + g + " alike", x -> x.pair(g, g, 2), NO);
        }
        for (int g : new int[] {0, lastGuest()}) {
            refused("pair " + g + " alike", x -> x.pair(g, g, 0), NO);
            refused("pair " + g + " alike", x -> x.pair(g, g, 2), NO);
        }
        for (int what : beyond(0, 2)) {
            refused("pair what " + what, x -> x.pair(0, lastGuest(), what), NO);
        }
    }

    // ---- now

    private static void partyAndGoes() {
        for (int g : noGuests()) {
            refused("party " + g, x -> x.party(g), BAD);
            refused("goes " + g + " to 0", x -> x.goes(g, 0), BAD);
            refused("goes 0 to " + g, x -> x.goes(0, g), BAD);
            refused("goes " + g + " to the last", x -> x.goes(g, lastGuest()), BAD);
            refused("goes " + g + " alone", x -> x.goes(g, g), BAD);
        }
        for (int i = 0; i < scene.guests(); i++) {
            int g = i;
            for (int k = 0; k < scene.guests(); k++) {
                int to = k;
                boolean isAlone = Integer.bitCount(scene.setOf(scene.row.charAt(g) - '0')) == 1;
                boolean isThere = g == to ? isAlone : scene.row.charAt(g) == scene.row.charAt(to);
                if (isThere) {
                    refused("goes " + g + " to " + to, x -> x.goes(g, to), STATE);
                }
            }
        }
    }

    private static void join() {
        for (int p : noParties()) {
            refused("join 0 " + p, x -> x.join(0, p), BAD);
            refused("join " + p + " 0", x -> x.join(p, 0), BAD);
            refused("join " + p + " alike", x -> x.join(p, p), BAD);
        }
        for (int i = 0; i < scene.parties(); i++) {
            int p = i;
            refused("join " + p + " alike", x -> x.join(p, p), BAD);
        }
    }

    private static void part() {
        for (int p : noParties()) {
            refused("part " + p, x -> x.part(p, 1), BAD);
            // No such party, and nobody parts either: BAD comes first.
            refused("part " + p + " nobody", x -> x.part(p, 0), BAD);
            refused("part " + p + " all", x -> x.part(p, -1), BAD);
        }
        for (int i = 0; i < scene.parties(); i++) {
            int p = i;
            int whole = scene.setOf(p);
            int least = Integer.lowestOneBit(whole);
            int[] sets = {0, whole, -1, LOW, HIGH, whole | 1 << scene.guests(), least | 1 << scene.guests(),
                1 << scene.guests(), least | 1 << 31, whole ^ (1 << scene.guests()) - 1, least | 256};
            for (int set : sets) {
                refused("part " + p + " by " + set, x -> x.part(p, set), STATE);
            }
            for (int g = 0; g < scene.guests(); g++) {
                int another = 1 << g;
                if ((whole & another) == 0) {
                    refused("part " + p + " by another's " + g, x -> x.part(p, another), STATE);
                    refused("part " + p + " by one and another's " + g, x -> x.part(p, least | another), STATE);
                }
            }
        }
    }

    private static void nowAndMany() {
        for (int what : beyond(0, 3)) {
            refused("now " + what, x -> x.now(what), NO);
        }
        for (int parties : beyond(0, 8)) {
            refused("many " + parties, x -> x.many(parties), BAD);
        }
    }

    // ---- all ways

    private static void nth() {
        for (int i : new int[] {-1, LOW}) {
            refused("nth " + i, x -> x.nth(i, 0), BAD);
            refused("nth " + i, x -> x.nth(i, lastGuest()), BAD);
        }
        for (int g : noGuests()) {
            refused("nth 0 of " + g, x -> x.nth(0, g), BAD);
            refused("nth -1 of " + g, x -> x.nth(-1, g), BAD);
            refused("nth beyond, of " + g, x -> x.nth(scene.ways, g), BAD);
        }
        refused("nth, one beyond", x -> x.nth(scene.ways, 0), NOT_SO_MANY);
        refused("nth, far beyond", x -> x.nth(HIGH, lastGuest()), NOT_SO_MANY);
    }

    private static void draw() {
        if (scene.ways == 0) {
            refused("draw", GuestParties::draw, STATE);
            refused("rank", GuestParties::rank, NONE);
        }
    }

    private static void saw() {
        for (int g : noGuests()) {
            refused("saw " + g + " 0", x -> x.saw(g, 0, 1), BAD);
            refused("saw 0 " + g, x -> x.saw(0, g, 0), BAD);
            refused("saw " + g + " alike", x -> x.saw(g, g, 0), BAD);
        }
        for (int is : beyond(0, 1)) {
            refused("saw is " + is, x -> x.saw(0, lastGuest(), is), BAD);
        }
        refused("saw 0 alike", x -> x.saw(0, 0, 1), BAD);
        refused("saw the last alike", x -> x.saw(lastGuest(), lastGuest(), 0), BAD);
        if (scene.name.equals("full")) {
            refused("saw together", x -> x.saw(0, 1, 1), FULL);
            refused("saw apart", x -> x.saw(3, 2, 0), FULL);
        }
    }

    private static void sure() {
        for (int g : noGuests()) {
            refused("sure " + g + " 0", x -> x.sure(g, 0), BAD);
            refused("sure 0 " + g, x -> x.sure(0, g), BAD);
            refused("sure " + g + " alike", x -> x.sure(g, g), BAD);
        }
        refused("sure 0 alike", x -> x.sure(0, 0), BAD);
        refused("sure the last alike", x -> x.sure(lastGuest(), lastGuest()), BAD);
    }

    // ---- two standings

    private static void two() {
        for (int image = 0; image < 2; image++) {
            int asked = image;
            for (int g : noGuests()) {
                refused("two " + image + " of " + g, x -> x.two(asked, 0, g), BAD);
            }
            for (int what : beyond(0, 1)) {
                refused("two " + image + " what " + what, x -> x.two(asked, what, 0), BAD);
            }
            if (!scene.isKept(image)) {
                refused("two " + image + " finer", x -> x.two(asked, 0, 0), STATE);
                refused("two " + image + " coarser", x -> x.two(asked, 1, lastGuest()), STATE);
            }
        }
        for (int image : beyond(0, 1)) {
            refused("two of image " + image, x -> x.two(image, 0, 0), BAD);
        }
    }

    private static void betweenFewestBack() {
        for (int image : beyond(0, 1)) {
            refused("between " + image, x -> x.between(image), BAD);
            refused("fewest " + image, x -> x.fewest(image), BAD);
            refused("back " + image, x -> x.back(image), BAD);
        }
        for (int image = 0; image < 2; image++) {
            int asked = image;
            if (!scene.isKept(image)) {
                refused("between " + image, x -> x.between(asked), STATE);
                refused("fewest " + image, x -> x.fewest(asked), STATE);
                refused("back " + image, x -> x.back(asked), STATE);
            }
        }
    }

    // ---- worths, leaving, evenings

    private static void bestAndLeaving() {
        for (int g : new int[] {-2, scene.guests(), scene.guests() + 1, 8, LOW, HIGH}) {
            refused("best " + g, x -> x.best(g), NO);
            refused("leaving " + g, x -> x.leaving(g), BAD);
        }
        if (scene.ways == 0) {
            for (int g = -1; g < scene.guests(); g++) {
                int asked = g;
                refused("best " + g, x -> x.best(asked), NO);
            }
        }
    }

    private static void evening() {
        for (int steps : new int[] {0, 100, -1, -99, LOW, HIGH}) {
            refused("evening of " + steps, x -> x.evening(steps), BAD);
        }
    }

    // ---- kinds, images

    private static void rate() {
        for (int g : noGuests()) {
            for (int kind = 0; kind < 6; kind++) {
                int asked = kind;
                refused("rate " + kind + " of " + g, x -> x.rate(asked, g), NO);
            }
        }
        for (int kind : beyond(0, 5)) {
            refused("rate " + kind, x -> x.rate(kind, 0), NO);
            refused("rate " + kind, x -> x.rate(kind, lastGuest()), NO);
        }
    }

    private static void keepAndCount() {
        for (int image : beyond(0, 1)) {
            refused("keep " + image, x -> x.keep(image), BAD);
        }
        for (int what : beyond(0, 4)) {
            refused("count " + what, x -> x.count(what), BAD);
        }
    }

    // ---- what only asks

    private static void asking() {
        asks("law", x -> x.law(1));
        asks("pair", x -> x.pair(0, lastGuest(), 2));
        asks("party", x -> x.party(lastGuest()));
        for (int what = 0; what < 4; what++) {
            int asked = what;
            asks("now", x -> x.now(asked));
        }
        asks("many", x -> x.many(2));
        asks("rank", GuestParties::rank);
        asks("nth", x -> x.nth(0, lastGuest()));
        asks("left", GuestParties::left);
        asks("sure", x -> x.sure(0, lastGuest()));
        for (int image = 0; image < 2; image++) {
            int asked = image;
            asks("finer", x -> x.two(asked, 0, lastGuest()));
            asks("coarser", x -> x.two(asked, 1, lastGuest()));
            asks("between", x -> x.between(asked));
            asks("fewest", x -> x.fewest(asked));
        }
        asks("best, worth", x -> x.best(-1));
        asks("best", x -> x.best(0));
        asks("leaving, goings", x -> x.leaving(-1));
        asks("leaving", x -> x.leaving(lastGuest()));
        asks("count", x -> x.count(4));
        asks("trace", GuestParties::trace);
    }
}
