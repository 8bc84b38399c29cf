/** Counts the answers that are not the ones that are due, and tells them. */
final class Due {
    private static int wrong = 0;
    private static int looked = 0;

    private Due() {
    }

    static void is(String what, long got, long want) {
        looked++;
        if (got != want) {
            wrong++;
            System.out.println(what + " answered " + got + ", due is " + want);
        }
    }

    static void holds(String what, boolean does) {
        is(what, does ? 1 : 0, 1);
    }

    /** Two texts of lines are alike; else the first line that is not is told. */
    static void same(String what, String got, String want) {
        looked++;
        String[] gotLines = got.split("\n", -1);
        String[] wantLines = want.split("\n", -1);
        for (int i = 0; i < Math.max(gotLines.length, wantLines.length); i++) {
            String gotLine = i < gotLines.length ? gotLines[i] : "(nothing)";
            String wantLine = i < wantLines.length ? wantLines[i] : "(nothing)";
            if (!gotLine.equals(wantLine)) {
                wrong++;
                System.out.println(what + ": '" + gotLine + "', due is '" + wantLine + "'");
                return;
            }
        }
    }

    static void finish() {
        System.out.println(looked + " looked at, " + wrong + " wrong");
        System.exit(wrong == 0 ? 0 : 1);
    }
}
