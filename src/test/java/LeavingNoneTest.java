import java.io.File;
import java.lang.reflect.Method;
import java.net.URL;
import java.net.URLClassLoader;
import java.nio.charset.StandardCharsets;
import java.nio.file.Files;
import java.nio.file.Path;
import javax.tools.ToolProvider;

/**
 * NONE of LEAVING (promise 25): 59 GOINGS still stop, 60 do not. With WORTHS of
 * -9 .. 9 no way of 60 GOINGS is known (a long search found 45 at most), so this
 * looks at a copy of the class that is alike but for one number: WORTHS up to 99.
 */
public final class LeavingNoneTest {
    private static final String SOURCE = "src/main/java/GuestParties.java";
    private static final String TOLD = "HIGHEST_WORTH = 9;";
    private static final String RAISED = "HIGHEST_WORTH = 99;";

    public static void main(String[] args) throws Exception {
        Path folder = Files.createTempDirectory("leaving");
        try (URLClassLoader loader = new URLClassLoader(new URL[] {raisedCopy(folder)}, null)) {
            Class<?> copy = loader.loadClass("GuestParties");
            leaves(copy, "59 goings", "01234500", "guests8;worth0 1 63;cost0 3 3;worth0 4 1;cost0 6 4;worth0 7 56;"
                    + "worth1 2 70;cost1 3 3;worth1 4 1;worth1 5 4;worth1 6 2;worth2 4 74;cost2 5 3;worth3 4 2;cost3 6 38;"
                    + "worth3 7 3;worth4 5 90;cost4 7 2;worth5 6 92;worth5 7 46;cost6 7 92;", 59, "00010020");
            // Behind the 60th nobody would go any more, but there are 60.
            leaves(copy, "60 goings", "01234500", "guests8;worth0 1 63;cost0 3 5;worth0 4 1;cost0 6 3;worth0 7 54;"
                    + "worth1 2 70;cost1 3 3;worth1 5 2;worth1 6 2;worth2 4 74;cost2 5 3;worth3 4 2;worth3 5 2;cost3 6 39;"
                    + "worth3 7 3;worth4 5 90;cost4 7 2;worth5 6 92;worth5 7 46;cost6 7 92;", GuestParties.NONE, "00010020");
            // A 61st would come to 00000010: it ends with the 60th.
            leaves(copy, "61 goings", "01234500", "guests8;worth0 1 63;cost0 3 3;worth0 4 1;cost0 6 3;worth0 7 54;"
                    + "worth1 2 70;cost1 3 3;worth1 5 2;worth1 6 2;worth2 4 74;cost2 5 3;worth3 4 2;worth3 5 2;cost3 6 39;"
                    + "worth3 7 3;worth4 5 90;cost4 7 2;worth5 6 92;worth5 7 46;cost6 7 92;", GuestParties.NONE, "00010020");
            // The 76th would come to 00010010.
            leaves(copy, "76 goings", "01223455", "guests8;worth0 1 68;cost0 2 9;cost0 3 4;worth0 4 6;worth0 5 1;"
                    + "worth0 7 60;worth1 2 72;worth1 3 2;worth1 6 2;cost1 7 1;cost2 3 60;worth2 4 74;cost2 6 1;worth2 7 7;"
                    + "cost3 4 2;worth3 6 1;worth3 7 3;worth4 5 93;cost4 6 20;cost4 7 10;worth5 6 95;worth5 7 54;cost6 7 97;",
                    GuestParties.NONE, "01121121");
        }
        longestKnown();
        Due.finish();
    }

    private static URL raisedCopy(Path folder) throws Exception {
        String source = Files.readString(Path.of(SOURCE));
        Due.holds("the number to raise is there once", source.split(TOLD, -1).length == 2);
        File copy = folder.resolve("GuestParties.java").toFile();
        Files.writeString(copy.toPath(), source.replace(TOLD, RAISED));
        int failed = ToolProvider.getSystemJavaCompiler().run(null, null, null, "-d", folder.toString(), copy.getPath());
        Due.is("the copy compiles", failed, 0);
        // What is named first goes last, when the folder is empty.
        folder.toFile().deleteOnExit();
        for (File file : folder.toFile().listFiles()) {
            file.deleteOnExit();
        }
        return folder.toUri().toURL();
    }

    private static void leaves(Class<?> copy, String what, String from, String told, int goings, String row)
            throws Exception {
        Object x = copy.getConstructor().newInstance();
        type(x, told);
        Due.holds("25 " + what + ": is read", call(x, "room") > 0);
        for (int g = 0; g < from.length(); g++) {
            call(x, "goes", g, from.indexOf(from.charAt(g)));
        }
        Due.is("25 " + what, call(x, "leaving", -1), goings);
        for (int g = 0; g < row.length(); g++) {
            Due.is("25 " + what + ": party of " + g, call(x, "leaving", g), row.charAt(g) - '0');
            Due.is("25 " + what + ": NOW stays", call(x, "party", g), from.charAt(g) - '0');
        }
    }

    private static void type(Object x, String text) throws Exception {
        Method type = x.getClass().getMethod("type", long.class, int.class);
        for (byte sign : text.getBytes(StandardCharsets.ISO_8859_1)) {
            type.invoke(x, (long) sign, 1);
        }
    }

    private static int call(Object x, String name, int... numbers) throws Exception {
        Class<?>[] types = new Class<?>[numbers.length];
        Object[] arguments = new Object[numbers.length];
        for (int i = 0; i < numbers.length; i++) {
            types[i] = int.class;
            arguments[i] = numbers[i];
        }
        return (Integer) x.getClass().getMethod(name, types).invoke(x, arguments);
    }

    private static void longestKnown() {
        GuestParties x = Texts.room("guests8;worth0 1 6;cost0 2 4;worth0 3 4;cost0 5 2;worth0 6 2;worth0 7 3;worth1 2 7;"
                + "cost1 4 1;cost1 6 1;worth2 3 8;worth2 6 1;worth2 7 3;worth3 4 9;cost3 5 1;cost3 6 2;worth3 7 9;worth4 5 9;"
                + "worth4 6 1;worth4 7 9;cost5 6 9;worth5 7 2;worth6 7 9;");
        Texts.stand(x, "01203445");
        Due.is("25 the longest way known", x.leaving(-1), 45);
    }
}
