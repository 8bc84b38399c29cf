import com.sun.source.tree.AssertTree;
import com.sun.source.tree.ClassTree;
import com.sun.source.tree.CompilationUnitTree;
import com.sun.source.tree.LambdaExpressionTree;
import com.sun.source.tree.LineMap;
import com.sun.source.tree.MemberReferenceTree;
import com.sun.source.tree.MethodInvocationTree;
import com.sun.source.tree.MethodTree;
import com.sun.source.tree.NewClassTree;
import com.sun.source.tree.SynchronizedTree;
import com.sun.source.tree.ThrowTree;
import com.sun.source.tree.Tree;
import com.sun.source.tree.TryTree;
import com.sun.source.tree.VariableTree;
import com.sun.source.util.JavacTask;
import com.sun.source.util.SourcePositions;
import com.sun.source.util.TreePathScanner;
import com.sun.source.util.TreeScanner;
import com.sun.source.util.Trees;
import java.io.File;
import java.lang.reflect.Constructor;
import java.lang.reflect.Field;
import java.lang.reflect.Method;
import java.lang.reflect.Modifier;
import java.util.ArrayList;
import java.util.HashMap;
import java.util.LinkedHashSet;
import java.util.List;
import java.util.Map;
import java.util.Set;
import java.util.TreeSet;
import javax.lang.model.element.Element;
import javax.tools.JavaCompiler;
import javax.tools.StandardJavaFileManager;
import javax.tools.ToolProvider;

/** The rules of ../shared/LANGUAGE.md that a look at the source can tell, and the document's face. */
public final class LanguageTest {
    private static final String SOURCE = "src/main/java/GuestParties.java";
    private static final Set<String> METHODS = Set.of(
            "int type(long,int)", "int clear()", "int room()", "int law(int)", "int pair(int,int,int)",
            "int party(int)", "int goes(int,int)", "int join(int,int)", "int part(int,int)", "int now(int)",
            "int many(int)", "int rank()", "int nth(int,int)", "int draw()", "int lot(int)", "int saw(int,int,int)",
            "int forget()", "int left()", "int sure(int,int)", "int two(int,int,int)", "int between(int)",
            "int fewest(int)", "int best(int)", "int leaving(int)", "int evening(int)", "int rate(int,int)",
            "int keep(int)", "int back(int)", "int count(int)", "long trace()");
    private static final Set<String> LIBRARY = Set.of("Integer.bitCount", "Integer.numberOfTrailingZeros",
            "Math.max", "Math.min");

    public static void main(String[] args) throws Exception {
        face();
        JavaCompiler compiler = ToolProvider.getSystemJavaCompiler();
        try (StandardJavaFileManager files = compiler.getStandardFileManager(null, null, null)) {
            JavacTask task = (JavacTask) compiler.getTask(null, files, null, null, null,
                    files.getJavaFileObjects(new File(SOURCE)));
            CompilationUnitTree unit = task.parse().iterator().next();
            Due.is("imports", unit.getImports().size(), 0);
            Due.holds("no package", unit.getPackageName() == null);
            new Rules(unit, Trees.instance(task).getSourcePositions()).lookAt();
            task.analyze();
            new Calls(Trees.instance(task)).lookAt(unit);
        }
        Due.finish();
    }

    private static void face() {
        Due.holds("public and final", Modifier.isPublic(GuestParties.class.getModifiers())
                && Modifier.isFinal(GuestParties.class.getModifiers()));
        Set<String> seen = new TreeSet<>();
        for (Method method : GuestParties.class.getDeclaredMethods()) {
            if (!Modifier.isPrivate(method.getModifiers())) {
                seen.add(signature(method));
            }
        }
        Due.holds("methods: " + seen, seen.equals(METHODS));
        Constructor<?>[] constructors = GuestParties.class.getDeclaredConstructors();
        Due.is("constructors", constructors.length, 1);
        Due.is("its parameters", constructors[0].getParameterCount(), 0);
        Set<String> constants = new TreeSet<>();
        for (Field field : GuestParties.class.getDeclaredFields()) {
            if (!Modifier.isPrivate(field.getModifiers())) {
                constants.add(field.getName());
            }
        }
        Due.holds("constants: " + constants, constants.equals(Set.of("BAD", "STATE", "FULL", "NONE", "NO")));
    }

    private static String signature(Method method) {
        StringBuilder text = new StringBuilder();
        for (Class<?> type : method.getParameterTypes()) {
            text.append(text.length() == 0 ? "" : ",").append(type.getName());
        }
        return method.getReturnType().getName() + " " + method.getName() + "(" + text + ")";
    }

    private static final class Rules extends TreeScanner<Void, String> {
        private final CompilationUnitTree unit;
        private final SourcePositions places;
        private int classes = 0;

        Rules(CompilationUnitTree unit, SourcePositions places) {
            this.unit = unit;
            this.places = places;
        }

        void lookAt() {
            scan(unit, null);
            Due.holds("classes: " + classes, classes <= 12);
        }

        private long lineOf(long place) {
            LineMap lines = unit.getLineMap();
            return lines.getLineNumber(place);
        }

        private void refuse(Tree tree) {
            Due.holds("line " + lineOf(places.getStartPosition(unit, tree)) + ": " + tree.getKind(), false);
        }

        @Override public Void visitClass(ClassTree tree, String outer) {
            classes++;
            String name = tree.getSimpleName().toString();
            Due.holds(name + " is static", outer == null
                    || tree.getModifiers().getFlags().contains(javax.lang.model.element.Modifier.STATIC));
            int fields = 0;
            for (Tree member : tree.getMembers()) {
                if (member instanceof VariableTree) {
                    VariableTree field = (VariableTree) member;
                    Set<javax.lang.model.element.Modifier> flags = field.getModifiers().getFlags();
                    boolean isStatic = flags.contains(javax.lang.model.element.Modifier.STATIC);
                    fields += isStatic ? 0 : 1;
                    Due.holds(field.getName() + " is final", !isStatic
                            || flags.contains(javax.lang.model.element.Modifier.FINAL));
                }
            }
            Due.holds(name + " has fields: " + fields, fields <= 20);
            return super.visitClass(tree, name);
        }

        @Override public Void visitMethod(MethodTree tree, String owner) {
            String name = tree.getName().toString();
            long lines = lineOf(places.getEndPosition(unit, tree)) - lineOf(places.getStartPosition(unit, tree)) + 1;
            Due.holds(name + " has parameters", tree.getParameters().size() <= 7);
            Due.holds(name + " has lines: " + lines, lines <= 60);
            boolean isPublic = tree.getModifiers().getFlags().contains(javax.lang.model.element.Modifier.PUBLIC);
            Due.holds(owner + "." + name + " bears a public name", isPublic
                    || METHODS.stream().noneMatch(m -> m.contains(" " + name + "(")));
            return super.visitMethod(tree, owner);
        }

        @Override public Void visitMethodInvocation(MethodInvocationTree tree, String owner) {
            String called = tree.getMethodSelect().toString();
            if (called.startsWith("Integer.") || called.startsWith("Math.") || called.startsWith("System.")) {
                Due.holds(called + " is not of the library", LIBRARY.contains(called));
            }
            return super.visitMethodInvocation(tree, owner);
        }

        @Override public Void visitNewClass(NewClassTree tree, String owner) {
            Due.holds("a class without a name", tree.getClassBody() == null);
            return super.visitNewClass(tree, owner);
        }

        @Override public Void visitThrow(ThrowTree tree, String owner) {
            refuse(tree);
            return super.visitThrow(tree, owner);
        }

        @Override public Void visitTry(TryTree tree, String owner) {
            refuse(tree);
            return super.visitTry(tree, owner);
        }

        @Override public Void visitAssert(AssertTree tree, String owner) {
            refuse(tree);
            return super.visitAssert(tree, owner);
        }

        @Override public Void visitSynchronized(SynchronizedTree tree, String owner) {
            refuse(tree);
            return super.visitSynchronized(tree, owner);
        }

        @Override public Void visitLambdaExpression(LambdaExpressionTree tree, String owner) {
            refuse(tree);
            return super.visitLambdaExpression(tree, owner);
        }

        @Override public Void visitMemberReference(MemberReferenceTree tree, String owner) {
            refuse(tree);
            return super.visitMemberReference(tree, owner);
        }
    }

    /** Which method calls which: how deep the calls go that are no recursion. */
    private static final class Calls extends TreePathScanner<Void, Element> {
        private static final int DEEPEST = 8;

        private final Trees trees;
        private final Map<Element, Set<Element>> called = new HashMap<>();

        Calls(Trees trees) {
            this.trees = trees;
        }

        void lookAt(CompilationUnitTree unit) {
            scan(unit, null);
            Due.holds("calls were found: " + called.size(), called.size() > METHODS.size());
            for (Element method : called.keySet()) {
                List<Element> longest = longestFrom(method, new ArrayList<>());
                Due.holds("calls go deep: " + longest, longest.size() <= DEEPEST);
            }
        }

        private List<Element> longestFrom(Element method, List<Element> open) {
            List<Element> longest = new ArrayList<>(open);
            longest.add(method);
            List<Element> here = longest;
            for (Element next : called.getOrDefault(method, Set.of())) {
                if (!here.contains(next)) {
                    List<Element> deeper = longestFrom(next, here);
                    longest = deeper.size() > longest.size() ? deeper : longest;
                }
            }
            return longest;
        }

        private void note(Element caller) {
            Element target = trees.getElement(getCurrentPath());
            if (caller != null && target != null) {
                called.computeIfAbsent(caller, k -> new LinkedHashSet<>()).add(target);
            }
        }

        @Override public Void visitMethod(MethodTree tree, Element outer) {
            return super.visitMethod(tree, trees.getElement(getCurrentPath()));
        }

        @Override public Void visitMethodInvocation(MethodInvocationTree tree, Element caller) {
            note(caller);
            return super.visitMethodInvocation(tree, caller);
        }

        @Override public Void visitNewClass(NewClassTree tree, Element caller) {
            note(caller);
            return super.visitNewClass(tree, caller);
        }
    }
}
