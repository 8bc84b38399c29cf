import java.lang.reflect.Method;
import java.nio.charset.StandardCharsets;
import java.util.ArrayList;
import java.util.Comparator;
import java.util.List;
import java.util.Random;

/** Runs of calls, the same each time, whose answers the plain model gives too. */
public final class AgainstModelTest {
    private static final int RUNS = 400;
    // An object is promised so many.
    private static final int CALLS = 512;
    private static final Random RANDOM = new Random(20261118);
    private static final List<Method> CALLED = new ArrayList<>();
    private static int calls;

    public static void main(String[] args) throws Exception {
        for (Method method : GuestParties.class.getDeclaredMethods()) {
            if (java.lang.reflect.Modifier.isPublic(method.getModifiers())) {
                CALLED.add(method);
            }
        }
        CALLED.sort(Comparator.comparing(Method::getName));
        Due.is("methods", CALLED.size(), 30);
        for (int run = 0; run < RUNS; run++) {
            playRun(run);
        }
        Due.finish();
    }

    private static void playRun(int run) throws Exception {
        GuestParties x = new GuestParties();
        PlainParties plain = new PlainParties();
        calls = 0;
        while (calls < CALLS) {
            int dice = RANDOM.nextInt(60);
            if (dice == 0 || calls == 0 && run % 4 != 0) {
                typeText(run, x, plain);
            } else if (dice < 4) {
                moveAbout(run, x, plain);
            } else {
                Method method = CALLED.get(RANDOM.nextInt(CALLED.size()));
                // A room told by nothing comes back to four guests: not too often.
                if (!method.getName().equals("room") || dice == 5) {
                    call(run, x, plain, method, someArguments(method));
                }
            }
        }
    }

    private static void call(int run, GuestParties x, PlainParties plain, Method method, Object[] arguments)
            throws Exception {
        calls++;
        Method same = PlainParties.class.getDeclaredMethod(method.getName(), method.getParameterTypes());
        long want = ((Number) same.invoke(plain, arguments)).longValue();
        long got = ((Number) method.invoke(x, arguments)).longValue();
        Due.is("run " + run + ", call " + calls + ": " + method.getName() + java.util.Arrays.toString(arguments),
                got, want);
    }

    private static void named(int run, GuestParties x, PlainParties plain, String name, Object... arguments)
            throws Exception {
        for (Method method : CALLED) {
            if (method.getName().equals(name)) {
                call(run, x, plain, method, arguments);
            }
        }
    }

    private static Object[] someArguments(Method method) {
        Class<?>[] types = method.getParameterTypes();
        Object[] arguments = new Object[types.length];
        for (int i = 0; i < types.length; i++) {
            arguments[i] = types[i] == long.class ? (Object) RANDOM.nextLong() : (Object) someNumber(method.getName());
        }
        return arguments;
    }

    private static int someNumber(String name) {
        int[] edges = {Integer.MIN_VALUE, Integer.MAX_VALUE, -2, -10, 100, 99, 255, 256, 1 << 20, 65536};
        int dice = RANDOM.nextInt(40);
        if (dice == 0) {
            return edges[RANDOM.nextInt(edges.length)];
        }
        switch (name) {
            case "lot": return RANDOM.nextInt();
            case "nth": return dice < 12 ? RANDOM.nextInt(4200) : RANDOM.nextInt(8);
            case "part": return dice < 20 ? RANDOM.nextInt(256) : RANDOM.nextInt(9) - 1;
            case "keep": case "back": case "two": case "between": case "fewest": return RANDOM.nextInt(2);
            case "saw": return RANDOM.nextInt(4);
            case "evening": return RANDOM.nextInt(102) - 1;
            default: return RANDOM.nextInt(11) - 2;
        }
    }

    private static void moveAbout(int run, GuestParties x, PlainParties plain) throws Exception {
        for (int i = RANDOM.nextInt(8); i >= 0; i--) {
            named(run, x, plain, "goes", RANDOM.nextInt(8), RANDOM.nextInt(8));
        }
    }

    private static void typeText(int run, GuestParties x, PlainParties plain) throws Exception {
        named(run, x, plain, "clear");
        byte[] bytes = someText().getBytes(StandardCharsets.ISO_8859_1);
        for (int from = 0; from < bytes.length;) {
            int n = Math.min(RANDOM.nextInt(8) + 1, bytes.length - from);
            named(run, x, plain, "type", Texts.pack(bytes, from, n) | (n < 8 ? RANDOM.nextLong() << 8 * n : 0), n);
            from += n;
        }
        named(run, x, plain, "room");
    }

    private static String someText() {
        StringBuilder text = new StringBuilder();
        int n = RANDOM.nextInt(8) + 1;
        if (RANDOM.nextInt(5) == 0) {
            n = 4;
        } else {
            text.append("guests ").append(n).append(';');
        }
        List<String> once = new ArrayList<>(List.of("parties", "least", "most", "unlike", "ring"));
        boolean fewLaws = RANDOM.nextBoolean();
        for (int i = RANDOM.nextInt(14); i > 0 && text.length() < 280; i--) {
            text.append(someItem(n, once, fewLaws));
        }
        if (RANDOM.nextInt(4) == 0) {
            spoil(text);
        }
        return text.toString();
    }

    private static String someItem(int n, List<String> once, boolean fewLaws) {
        int a = RANDOM.nextInt(n);
        int b = n == 1 ? 0 : (a + 1 + RANDOM.nextInt(n - 1)) % n;
        switch (RANDOM.nextInt(fewLaws ? 6 : 10)) {
            case 0: case 1: return "hat " + a + " " + RANDOM.nextInt(6) + ";";
            case 2: case 3: return n == 1 ? "" : "worth " + a + "  " + b + " " + RANDOM.nextInt(10) + " ;";
            case 4: case 5: return n == 1 ? "" : "cost " + a + " " + b + " " + RANDOM.nextInt(10) + "; ";
            case 6: return n == 1 ? "" : "apart " + a + " " + b + ";";
            case 7: return n == 1 ? "" : " together " + a + " " + b + ";";
            default: return once.isEmpty() ? "" : onceItem(once.remove(RANDOM.nextInt(once.size())));
        }
    }

    private static String onceItem(String word) {
        switch (word) {
            case "parties": return "parties " + (RANDOM.nextInt(4) + 1) + ";";
            case "least": return "least " + (RANDOM.nextInt(2) + 1) + ";";
            case "most": return "most" + (RANDOM.nextInt(4) + 2) + ";";
            default: return word + ";";
        }
    }

    private static void spoil(StringBuilder text) {
        String signs = "0123456789 ;;;abgrs\u0000\u00ffZ-\t";
        String[] pieces = {"ring;", "guests 3;", "most 3;", " 100", "00", "hat 0 6;", "apart 0 0;", "worth 0 1 10;", "ring"};
        int at = RANDOM.nextInt(text.length() + 1);
        switch (RANDOM.nextInt(4)) {
            case 0: text.setLength(at); break;
            case 1: text.insert(at, signs.charAt(RANDOM.nextInt(signs.length()))); break;
            case 2: text.insert(at, pieces[RANDOM.nextInt(pieces.length)]); break;
            default:
                if (at < text.length()) {
                    text.setCharAt(at, signs.charAt(RANDOM.nextInt(signs.length())));
                }
        }
    }
}
