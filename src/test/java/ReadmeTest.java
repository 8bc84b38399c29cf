import java.io.IOException;
import java.lang.reflect.Method;
import java.lang.reflect.Modifier;
import java.net.URL;
import java.net.URLClassLoader;
import java.nio.file.Files;
import java.nio.file.Path;
import java.util.ArrayList;
import java.util.List;
import java.util.Set;
import java.util.TreeSet;
import java.util.regex.Matcher;
import java.util.regex.Pattern;
import java.util.stream.Stream;
import javax.tools.ToolProvider;

/**
 * README.md: its examples, put together to one program, answer as they say; each
 * call of the class is shown; each test of the project is named.
 */
public final class ReadmeTest {
    private static final Path README = Path.of("README.md");
    private static final Path TESTS = Path.of("src/test/java");
    // A call at the beginning of a line: those within a loop are only made.
    private static final Pattern CALL = Pattern.compile("x\\.(\\w+)\\(.*\\);.*");
    private static final Pattern ANSWERED =
            Pattern.compile("(x\\.\\w+\\(.*\\)); +// (-?\\d+|BAD|STATE|FULL|NONE|NO)\\b.*");

    private static final List<String> CALLS = new ArrayList<>();
    private static final Set<String> SHOWN = new TreeSet<>();

    public static void main(String[] args) throws Exception {
        String program = program(Files.readAllLines(README));
        List<?> answers = run(program);
        Due.is("answers", answers.size(), CALLS.size());
        for (int i = 0; i < answers.size(); i++) {
            long[] answer = (long[]) answers.get(i);
            Due.is("README.md: " + CALLS.get(i), answer[0], answer[1]);
        }
        Due.holds("calls that are not shown: " + notShown(), notShown().isEmpty());
        testsAreNamed();
        Due.finish();
    }

    private static String program(List<String> lines) {
        StringBuilder body = new StringBuilder();
        boolean isExample = false;
        for (String line : lines) {
            if (line.startsWith("```")) {
                isExample = line.equals("```java");
            } else if (isExample) {
                body.append(statement(line)).append('\n');
            }
        }
        return "public final class Shown {\n"
                + "public static java.util.List<long[]> run() {\n"
                + "java.util.List<long[]> answers = new java.util.ArrayList<>();\n"
                + body + "return answers;\n}\n}\n";
    }

    private static String statement(String line) {
        Matcher call = CALL.matcher(line);
        if (!call.matches()) {
            return line;
        }
        Matcher answered = ANSWERED.matcher(line);
        Due.holds("README.md tells an answer: " + line, answered.matches());
        if (!answered.matches()) {
            return line;
        }
        CALLS.add(line);
        SHOWN.add(call.group(1));
        String due = answered.group(2);
        boolean isNumber = Character.isDigit(due.charAt(due.length() - 1));
        return "answers.add(new long[] {" + answered.group(1) + ", " + (isNumber ? "" : "GuestParties.") + due + "});";
    }

    private static List<?> run(String program) throws Exception {
        Path folder = Files.createTempDirectory("readme");
        try {
            Path source = Files.writeString(folder.resolve("Shown.java"), program);
            int failed = ToolProvider.getSystemJavaCompiler().run(null, null, null,
                    "-cp", System.getProperty("java.class.path"), "-d", folder.toString(), source.toString());
            Due.is("README.md: its examples compile", failed, 0);
            if (failed != 0) {
                Due.finish();
            }
            try (URLClassLoader loader = new URLClassLoader(new URL[] {folder.toUri().toURL()})) {
                return (List<?>) loader.loadClass("Shown").getMethod("run").invoke(null);
            }
        } finally {
            delete(folder);
        }
    }

    private static void delete(Path folder) throws IOException {
        try (Stream<Path> files = Files.list(folder)) {
            for (Path file : (Iterable<Path>) files::iterator) {
                Files.delete(file);
            }
        }
        Files.delete(folder);
    }

    private static Set<String> notShown() {
        Set<String> names = new TreeSet<>();
        for (Method method : GuestParties.class.getDeclaredMethods()) {
            if (Modifier.isPublic(method.getModifiers())) {
                names.add(method.getName());
            }
        }
        names.removeAll(SHOWN);
        return names;
    }

    private static void testsAreNamed() throws IOException {
        String readme = Files.readString(README);
        Due.holds("README.md tells how the tests are run", readme.contains("\n.ci/run\n"));
        try (Stream<Path> files = Files.list(TESTS)) {
            for (Path file : (Iterable<Path>) files::iterator) {
                String name = file.getFileName().toString().replace(".java", "");
                Due.holds("README.md names " + name, Files.isDirectory(file) || readme.contains("`" + name + "`"));
            }
        }
    }
}
