import java.lang.management.ManagementFactory;
import java.lang.reflect.Constructor;
import java.lang.reflect.Executable;
import java.lang.reflect.Field;
import java.lang.reflect.Method;
import java.lang.reflect.Modifier;
import java.nio.file.Files;
import java.nio.file.Path;
import java.util.ArrayList;
import java.util.List;
import java.util.TreeSet;
import java.util.regex.Matcher;
import java.util.regex.Pattern;

/** The face of the document, and the rules of the language that can be told by looking. */
public final class RulesTest {
    private static final List<String> FAULTS = new ArrayList<>();
    private static final Path DOCUMENT = Path.of("../shared/DOC.md");
    private static final Path PROGRAM = Path.of("src/main/java/QuorumLog.java");
    /** Far below the room of a run, which is some 600,000 objects and 7.3 million elements. */
    private static final long MOST_BYTES_OF_A_RUN = 4_000_000;

    public static void main(String[] args) throws Exception {
        faceIsThatOfTheDocument();
        nothingElseIsShown();
        sourceKeepsToTheLibrary();
        dearRunsMakeLittle();
        for (String fault : FAULTS) {
            System.out.println(fault);
        }
        System.out.println(FAULTS.isEmpty() ? "the rules hold" : FAULTS.size() + " faults");
        System.exit(FAULTS.isEmpty() ? 0 : 1);
    }

    private static void faceIsThatOfTheDocument() throws Exception {
        Matcher block = Pattern.compile("```java\n(.*?)```", Pattern.DOTALL).matcher(Files.readString(DOCUMENT));
        if (!block.find()) {
            FAULTS.add("the document has no face");
            return;
        }
        TreeSet<String> due = new TreeSet<>();
        for (String line : block.group(1).split("\n")) {
            if (line.startsWith("    public ")) {
                due.add(line.trim().replaceAll("(int|boolean) [a-z]+([,)])", "$1$2"));
            }
        }
        TreeSet<String> shown = new TreeSet<>();
        for (Method m : QuorumLog.class.getDeclaredMethods()) {
            if (Modifier.isPublic(m.getModifiers())) {
                shown.add(written(m, m.getReturnType() + " " + m.getName()));
            }
        }
        for (Constructor<?> c : QuorumLog.class.getConstructors()) {
            shown.add(written(c, c.getName()));
        }
        if (!due.equals(shown)) {
            FAULTS.add("the face is\n" + shown + ", due is\n" + due);
        }
    }

    private static String written(Executable e, String start) {
        String parameters = listed(e.getParameterTypes());
        String thrown = listed(e.getExceptionTypes());
        return "public " + start + "(" + parameters + ")" + (thrown.isEmpty() ? "" : " throws " + thrown) + ";";
    }

    private static String listed(Class<?>[] types) {
        StringBuilder list = new StringBuilder();
        for (Class<?> type : types) {
            list.append(list.length() == 0 ? "" : ", ").append(type.getSimpleName());
        }
        return list.toString();
    }

    private static void nothingElseIsShown() {
        Class<?> face = QuorumLog.class;
        if (!Modifier.isFinal(face.getModifiers()) || !Modifier.isPublic(face.getModifiers())) {
            FAULTS.add("the class is not public and final");
        }
        TreeSet<String> names = new TreeSet<>();
        for (Method m : face.getDeclaredMethods()) {
            if (Modifier.isPublic(m.getModifiers())) {
                names.add(m.getName());
            }
        }
        for (Field f : face.getDeclaredFields()) {
            if (!Modifier.isPrivate(f.getModifiers())) {
                FAULTS.add("the field " + f.getName() + " is shown");
            }
        }
        List<Class<?>> all = new ArrayList<>(List.of(face.getDeclaredClasses()));
        all.add(face);
        for (Class<?> c : all) {
            looksAtMembers(c, names);
        }
    }

    private static void looksAtMembers(Class<?> c, TreeSet<String> names) {
        int ownFields = 0;
        for (Field f : c.getDeclaredFields()) {
            boolean isConstant = Modifier.isStatic(f.getModifiers());
            ownFields += isConstant ? 0 : 1;
            if (isConstant && !Modifier.isFinal(f.getModifiers())) {
                FAULTS.add(c.getName() + "." + f.getName() + " is static, but not final");
            }
        }
        if (ownFields > 20) {
            FAULTS.add(c.getName() + " has " + ownFields + " fields");
        }
        for (Method m : c.getDeclaredMethods()) {
            boolean isPublic = Modifier.isPublic(m.getModifiers());
            if (!isPublic && names.contains(m.getName())) {
                FAULTS.add(m + " bears the name of a public one");
            }
            if (c == QuorumLog.class && !isPublic && !Modifier.isPrivate(m.getModifiers())) {
                FAULTS.add(m + " is shown");
            }
            if (m.getParameterCount() > 7) {
                FAULTS.add(m + " takes more than seven");
            }
        }
    }

    private static void sourceKeepsToTheLibrary() throws Exception {
        String source = Files.readString(PROGRAM);
        String[] banned = {"->", "::", "\\btry\\b", "\\bcatch\\b", "\\bfinally\\b", "\\bsynchronized\\b", "\\bassert\\b",
            "\\bString\\b", "\\bObject\\b", "\\bfloat\\b", "static \\{", "\\bSystem\\.(?!arraycopy)",
            "\\bArrays\\.(?!fill|copyOf)", "\\bMath\\.(?!max|min|abs)", "Exact\\(", "java\\.(?!util\\.Arrays;)",
            "\" *\\+", "\\+ *\"", "[^\\x00-\\x7e]"};
        for (String pattern : banned) {
            Matcher m = Pattern.compile(pattern).matcher(source);
            if (m.find()) {
                FAULTS.add("the program has " + m.group() + " at " + m.start());
            }
        }
        Matcher thrown = Pattern.compile("throw (.*)").matcher(source);
        while (thrown.find()) {
            String form = "new (IndexOutOfBounds|IllegalArgument|IllegalState)Exception\\(\"[^\"]*\"\\);";
            if (!thrown.group(1).matches(form)) {
                FAULTS.add("thrown is " + thrown.group(1));
            }
        }
    }

    /** The dearest calls, 512 of them each: what they make is far below the room of a run. */
    private static void dearRunsMakeLittle() {
        new QuorumLog().digest();
        for (int kind = 0; kind < 5; kind++) {
            long before = bytesMade();
            QuorumLog x = new QuorumLog();
            x.found(7);
            x.pass(12);
            for (int i = 0; i < 509; i++) {
                dearCall(x, kind, i);
            }
            long made = bytesMade() - before;
            if (made > MOST_BYTES_OF_A_RUN) {
                FAULTS.add("a run of kind " + kind + " makes " + made + " bytes");
            }
        }
    }

    private static void dearCall(QuorumLog x, int kind, int i) {
        if (kind == 0) {
            x.pass(30);
        } else if (kind == 1) {
            x.found(1 + i % 7);
        } else if (kind == 2) {
            x.roundsWithout(0);
        } else if (kind == 3) {
            x.digest();
        } else if (x.isAnswered(0) || x.serialOf(0) == 0) {
            x.askAdd(0, 0, 1);
        } else if (x.lastOf(0) - x.snapshotOf(0) < 30) {
            x.hand(0, 0);
        } else if (x.committedOf(0) > x.snapshotOf(0)) {
            x.shorten(0);
        } else {
            x.pass(2);
        }
    }

    private static long bytesMade() {
        com.sun.management.ThreadMXBean threads =
                (com.sun.management.ThreadMXBean) ManagementFactory.getThreadMXBean();
        return threads.getThreadAllocatedBytes(Thread.currentThread().getId());
    }
}
