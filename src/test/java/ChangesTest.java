import java.util.function.ToLongFunction;

/**
 * A call changes what its promise tells, and nothing else: in each scene, all
 * that can be seen stays but for the lines that may change by that call.
 */
public final class ChangesTest {
    private static final String[] TEXT = {"count 4 ", "room ", "told by it"};
    private static final String[] NOW = {"party ", "now ", "rank ", "leaving ", "listener ", "between ", "fewest ",
        "finer ", "coarser "};
    private static final String[] SEEN = {"count 1 ", "left ", "sure "};
    private static final String[] LOT = {"lot "};
    private static final String[] TRACE = {"trace "};

    private static Scene scene;
    private static String[] before;

    public static void main(String[] args) {
        for (Scene each : Scene.all()) {
            scene = each;
            before = Looks.of(scene.make()).split("\n");
            text();
            now();
            lotAndSeen();
            images();
            rates();
        }
        roomLeavesLotAndTrace();
        Due.finish();
    }

    private static void changes(String call, ToLongFunction<GuestParties> asked, String[]... mayChange) {
        GuestParties x = scene.make();
        asked.applyAsLong(x);
        String[] behind = Looks.of(x).split("\n");
        Due.is(scene.name + ": lines behind " + call, behind.length, before.length);
        for (int i = 0; i < Math.min(before.length, behind.length); i++) {
            Due.holds(scene.name + ": " + call + " made '" + behind[i] + "' of '" + before[i] + "'",
                    behind[i].equals(before[i]) || isAmong(before[i], mayChange) || isOfNoImage(before[i]));
        }
    }

    private static boolean isAmong(String line, String[][] groups) {
        for (String[] group : groups) {
            for (String beginning : group) {
                if (line.startsWith(beginning)) {
                    return true;
                }
            }
        }
        return false;
    }

    // Where no image was kept, what Looks sees behind back() is NOW and SEEN once more.
    private static boolean isOfNoImage(String line) {
        return !scene.isKept(0) && line.startsWith("back 0: ") || !scene.isKept(1) && line.startsWith("back 1: ");
    }

    private static String[] ofImage(int image) {
        return new String[] {"between " + image, "fewest " + image, "finer " + image, "coarser " + image,
            "back " + image};
    }

    private static void text() {
        changes("type of ring;", x -> x.type(0x72696e673bL, 5), TEXT);
        changes("type of !", x -> x.type('!', 1), TEXT);
        changes("clear", GuestParties::clear, TEXT);
    }

    private static void now() {
        int last = scene.guests() - 1;
        for (int i = 0; i <= last; i++) {
            int g = i;
            changes("goes " + g + " to the last", x -> x.goes(g, last), NOW);
            changes("goes " + g + " to 0", x -> x.goes(g, 0), NOW);
            changes("goes " + g + " alone", x -> x.goes(g, g), NOW);
        }
        changes("join", x -> x.join(0, scene.parties() - 1), NOW);
        for (int i = 0; i < scene.parties(); i++) {
            int p = i;
            changes("part " + p, x -> x.part(p, Integer.highestOneBit(scene.setOf(p))), NOW);
        }
        changes("draw", GuestParties::draw, NOW, LOT);
        changes("evening of 1", x -> x.evening(1), NOW, LOT);
        changes("evening of 99", x -> x.evening(99), NOW, LOT);
    }

    private static void lotAndSeen() {
        int last = scene.guests() - 1;
        changes("lot", x -> x.lot(-987654321), LOT);
        changes("saw together", x -> x.saw(0, last, 1), SEEN);
        changes("saw not together", x -> x.saw(last, 0, 0), SEEN);
        changes("forget", GuestParties::forget, SEEN);
    }

    private static void images() {
        for (int i = 0; i < 2; i++) {
            int image = i;
            changes("keep " + image, x -> x.keep(image), ofImage(image));
            changes("back " + image, x -> x.back(image), NOW, SEEN, LOT);
        }
    }

    private static void rates() {
        for (int i = 0; i < 6; i++) {
            int kind = i;
            changes("rate as " + kind, x -> x.rate(kind, scene.guests() - 1), TRACE);
        }
    }

    /** Read anew, all is as in a new object that was told the same, but for THE LOT and THE TRACE. */
    private static void roomLeavesLotAndTrace() {
        String told = "guests 3;hat 1 2;most 2;worth 0 2 6;";
        for (Scene each : Scene.all()) {
            GuestParties x = each.make();
            int lot = x.lot(0);
            x.lot(lot);
            GuestParties fresh = Texts.room(told);
            fresh.lot(lot);
            long trace = x.trace();
            String due = Looks.of(fresh).replace("trace is 0\n", "trace is " + trace + "\n");
            Due.is(each.name + ": told anew", Texts.tell(x, told), 4);
            Due.same(each.name + ": read anew", Looks.of(x), due);
        }
    }
}
