import java.util.function.IntUnaryOperator;

/** What the tests of edges have in common. */
final class Edges {
    private Edges() {
    }

    /** least .. most are taken, and what is beyond them is refused so. */
    static void takes(String what, int least, int most, int refusal, IntUnaryOperator call) {
        for (int number = least; number <= most; number++) {
            int answer = call.applyAsInt(number);
            Due.holds(what + " " + number + " answered " + answer, answer > -10 && answer != refusal);
        }
        for (int number : new int[] {least - 1, most + 1, least - 2, most + 2, Integer.MIN_VALUE, Integer.MAX_VALUE}) {
            Due.is(what + " " + number, call.applyAsInt(number), refusal);
        }
    }

    static void row(String what, GuestParties x, String want) {
        String got = Texts.row(x);
        Due.holds(what + ": row " + got + ", due is " + want, got.equals(want));
    }

    /** A new object with so many guests, no laws, and NOW of this row. */
    static GuestParties standing(String row) {
        return Texts.stand(Texts.room("guests " + row.length() + ";"), row);
    }
}
