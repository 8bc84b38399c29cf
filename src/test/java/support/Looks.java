/**
 * All that can be seen of an object, line by line: what was told, NOW, the ways,
 * SEEN, THE LOT, both IMAGES, THE TRACE and THE TEXT. Looking at the last of
 * these uses the object up: two objects that are to be alike are looked at once each.
 */
final class Looks {
    // An object is promised 512 calls: those that made the scene come before these.
    private static final int MOST_CALLS = 400;

    private final GuestParties x;
    private final StringBuilder lines = new StringBuilder();
    private int calls = 0;

    private Looks(GuestParties x) {
        this.x = x;
    }

    static String of(GuestParties x) {
        Looks looks = new Looks(x);
        looks.atWhatWasTold();
        looks.atNow();
        looks.atWays();
        looks.atImages();
        looks.atRates();
        looks.add("lot", x.lot(0));
        looks.back(0);
        looks.back(1);
        looks.atText();
        Due.holds("calls of looks: " + looks.calls, looks.calls <= MOST_CALLS);
        return looks.lines.toString();
    }

    private void add(String what, long answer) {
        calls++;
        lines.append(what).append(" is ").append(answer).append('\n');
    }

    private void addPairs(String what, java.util.function.IntBinaryOperator asked) {
        int guests = x.count(0);
        for (int a = 0; a < guests; a++) {
            for (int b = a + 1; b < guests; b++) {
                add(what + " of " + a + " and " + b, asked.applyAsInt(a, b));
            }
        }
    }

    private void atWhatWasTold() {
        for (int i = 0; i < 5; i++) {
            int what = i;
            add("count " + what, x.count(what));
            add("law " + what, x.law(what));
        }
        addPairs("together", (a, b) -> x.pair(a, b, 0));
        addPairs("apart", (a, b) -> x.pair(a, b, 1));
        addPairs("worth", (a, b) -> x.pair(a, b, 2));
    }

    private void atRow(String what) {
        for (int g = 0; g < x.count(0); g++) {
            add(what + " " + g, x.party(g));
        }
    }

    private void atNow() {
        atRow("party");
        for (int what = 0; what < 4; what++) {
            add("now " + what, x.now(what));
        }
        add("rank", x.rank());
    }

    private void atWays() {
        for (int parties = 0; parties < 9; parties++) {
            add("many " + parties, x.many(parties));
        }
        add("left", x.left());
        addPairs("sure", x::sure);
        add("best", x.best(-1));
        add("leaving", x.leaving(-1));
    }

    private void atImages() {
        for (int image = 0; image < 2; image++) {
            add("between " + image, x.between(image));
            add("fewest " + image, x.fewest(image));
            for (int g = 0; g < x.count(0); g++) {
                add("finer " + image + " " + g, x.two(image, 0, g));
                add("coarser " + image + " " + g, x.two(image, 1, g));
            }
        }
    }

    private void atRates() {
        add("trace", x.trace());
        for (int g = 0; g < x.count(0); g++) {
            add("listener " + g, x.rate(2, g));
        }
    }

    private void back(int image) {
        add("back " + image, x.back(image));
        atRow("back " + image + ": party");
        add("back " + image + ": seen", x.count(1));
        add("back " + image + ": left", x.left());
        add("back " + image + ": lot", x.lot(0));
    }

    private void atText() {
        add("room", x.room());
        add("told by it: guests", x.count(0));
        add("told by it: together", x.count(2));
        add("told by it: apart", x.count(3));
        for (int what = 0; what < 5; what++) {
            add("told by it: law " + what, x.law(what));
        }
    }
}
