import com.sun.source.tree.ClassTree;
import com.sun.source.tree.CompilationUnitTree;
import com.sun.source.tree.LineMap;
import com.sun.source.tree.MethodInvocationTree;
import com.sun.source.tree.MethodTree;
import com.sun.source.tree.NewClassTree;
import com.sun.source.tree.ThrowTree;
import com.sun.source.tree.VariableTree;
import com.sun.source.util.JavacTask;
import com.sun.source.util.SourcePositions;
import com.sun.source.util.TreePath;
import com.sun.source.util.TreePathScanner;
import com.sun.source.util.Trees;
import java.util.ArrayList;
import java.util.HashSet;
import java.util.LinkedHashMap;
import java.util.LinkedHashSet;
import java.util.List;
import java.util.Map;
import java.util.Set;
import javax.lang.model.element.Element;
import javax.lang.model.element.ElementKind;
import javax.lang.model.element.Modifier;
import javax.tools.JavaCompiler;
import javax.tools.StandardJavaFileManager;
import javax.tools.ToolProvider;

/** The rules of the language that can be told from the source, by the compiler's own tree of it. */
public final class SourceTest extends Checks {
    private static final int MOST_CLASSES = 12;
    private static final int MOST_LINES = 60;
    private static final int DEEPEST = 8;

    private static final Map<Element, Set<Element>> CALLS = new LinkedHashMap<>();
    private static final Map<Element, Long> LINES = new LinkedHashMap<>();
    private static final List<Element> CLASSES = new ArrayList<>();
    private static final List<Element> THROWING = new ArrayList<>();
    private static final List<Element> FIELDS = new ArrayList<>();

    public static void main(String[] args) throws Exception {
        readSource();
        for (String name : List.of("theSourceWasRead", "classesAreFew", "classesInsideAreStatic", "methodsAreShort",
                "noMethodCallsItself", "callsGoNoDeeper", "noConstructorThrows", "fieldsOfClassesAreFinalIfStatic",
                "methodsInsideDoNotBearNamesOfTheFace")) {
            play(name, SourceTest.class.getDeclaredMethod(name));
        }
        end("the source keeps to the rules");
    }

    private static void readSource() throws Exception {
        JavaCompiler compiler = ToolProvider.getSystemJavaCompiler();
        try (StandardJavaFileManager files = compiler.getStandardFileManager(null, null, null)) {
            JavacTask task = (JavacTask) compiler.getTask(null, files, null, List.of("-proc:none"), null,
                    files.getJavaFileObjects("src/main/java/QuorumLog.java"));
            for (CompilationUnitTree unit : task.parse()) {
                task.analyze();
                new Reader(Trees.instance(task), unit).scan(unit, null);
            }
        }
    }

    /** Gathers what the tests look at. */
    private static final class Reader extends TreePathScanner<Void, Void> {
        private final Trees trees;
        private final CompilationUnitTree unit;
        private Element method;

        Reader(Trees trees, CompilationUnitTree unit) {
            this.trees = trees;
            this.unit = unit;
        }

        private Element here() {
            return trees.getElement(getCurrentPath());
        }

        @Override
        public Void visitClass(ClassTree node, Void none) {
            CLASSES.add(here());
            return super.visitClass(node, none);
        }

        @Override
        public Void visitVariable(VariableTree node, Void none) {
            if (here() != null && here().getKind() == ElementKind.FIELD) {
                FIELDS.add(here());
            }
            return super.visitVariable(node, none);
        }

        @Override
        public Void visitMethod(MethodTree node, Void none) {
            method = here();
            CALLS.put(method, new LinkedHashSet<>());
            SourcePositions at = trees.getSourcePositions();
            LineMap lines = unit.getLineMap();
            long start = lines.getLineNumber(Math.max(0, at.getStartPosition(unit, node)));
            LINES.put(method, lines.getLineNumber(Math.max(0, at.getEndPosition(unit, node))) - start + 1);
            super.visitMethod(node, none);
            method = null;
            return null;
        }

        @Override
        public Void visitMethodInvocation(MethodInvocationTree node, Void none) {
            calls(trees.getElement(new TreePath(getCurrentPath(), node.getMethodSelect())));
            return super.visitMethodInvocation(node, none);
        }

        @Override
        public Void visitNewClass(NewClassTree node, Void none) {
            calls(here());
            return super.visitNewClass(node, none);
        }

        private void calls(Element called) {
            if (method != null && called != null) {
                CALLS.get(method).add(called);
            }
        }

        @Override
        public Void visitThrow(ThrowTree node, Void none) {
            if (method != null) {
                THROWING.add(method);
            }
            return super.visitThrow(node, none);
        }
    }

    static void theSourceWasRead() {
        is("the face was found", CALLS.size() > 67, true);
        is("exceptions are thrown", THROWING.isEmpty(), false);
        is("classes were found", CLASSES.size() > 1, true);
        is("fields were found", FIELDS.isEmpty(), false);
    }

    static void classesAreFew() {
        is(CLASSES.size() + " classes are at most " + MOST_CLASSES, CLASSES.size() <= MOST_CLASSES, true);
    }

    static void classesInsideAreStatic() {
        for (Element each : CLASSES) {
            boolean isOuter = each.getSimpleName().contentEquals("QuorumLog");
            is(each + " is static", isOuter || each.getModifiers().contains(Modifier.STATIC), true);
            is(each + " is public only outside", each.getModifiers().contains(Modifier.PUBLIC), isOuter);
        }
    }

    static void methodsAreShort() {
        LINES.forEach((method, lines) -> is(method + " has " + lines + " lines", lines <= MOST_LINES, true));
    }

    static void noMethodCallsItself() {
        for (Element each : CALLS.keySet()) {
            is(each.getEnclosingElement() + "." + each + " comes back to itself", reached(each).contains(each), false);
        }
    }

    private static Set<Element> reached(Element from) {
        Set<Element> all = new HashSet<>();
        List<Element> open = new ArrayList<>(CALLS.get(from));
        while (!open.isEmpty()) {
            Element next = open.remove(open.size() - 1);
            if (CALLS.containsKey(next) && all.add(next)) {
                open.addAll(CALLS.get(next));
            }
        }
        return all;
    }

    static void callsGoNoDeeper() {
        for (Element each : CALLS.keySet()) {
            int depth = reached(each).contains(each) ? DEEPEST + 1 : depth(each);
            is(each + " goes " + depth + " deep", depth <= DEEPEST, true);
        }
    }

    /** The calls of the program that stand open at once, this one among them. */
    private static int depth(Element from) {
        int below = 0;
        for (Element called : CALLS.get(from)) {
            if (CALLS.containsKey(called)) {
                below = Math.max(below, depth(called));
            }
        }
        return below + 1;
    }

    static void noConstructorThrows() {
        for (Element each : THROWING) {
            is(each + " throws", each.getKind() == ElementKind.CONSTRUCTOR, false);
        }
    }

    static void fieldsOfClassesAreFinalIfStatic() {
        for (Element each : FIELDS) {
            boolean isFinal = each.getModifiers().contains(Modifier.FINAL);
            is(each + " is final", isFinal || !each.getModifiers().contains(Modifier.STATIC), true);
        }
    }

    static void methodsInsideDoNotBearNamesOfTheFace() {
        Set<String> face = new HashSet<>();
        for (Element each : CALLS.keySet()) {
            if (isOfTheFace(each)) {
                face.add(each.getSimpleName().toString());
            }
        }
        for (Element each : CALLS.keySet()) {
            boolean isTaken = face.contains(each.getSimpleName().toString());
            is(each + " bears a name of the face", isTaken && !isOfTheFace(each), false);
        }
    }

    private static boolean isOfTheFace(Element method) {
        return method.getKind() == ElementKind.METHOD && method.getModifiers().contains(Modifier.PUBLIC);
    }
}
