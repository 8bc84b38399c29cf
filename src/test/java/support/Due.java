/** Counts the answers that are not the ones that are due, and tells them. */
final class Due {
    private static int wrong = 0;
    private static int looked = 0;

    private Due() {
    }

    static void is(String what, long got, long want) {
        looked++;
        if (got != want) {
            wrong++;
            System.out.println(what + " answered " + got + ", due is " + want);
        }
    }

    static void holds(String what, boolean does) {
        is(what, does ? 1 : 0, 1);
    }

    static void finish() {
        System.out.println(looked + " looked at, " + wrong + " wrong");
        System.exit(wrong == 0 ? 0 : 1);
    }
}
