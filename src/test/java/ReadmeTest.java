import java.lang.reflect.Method;
import java.net.URL;
import java.net.URLClassLoader;
import java.nio.file.Files;
import java.nio.file.Path;
import java.util.ArrayList;
import java.util.Comparator;
import java.util.List;
import java.util.regex.Matcher;
import java.util.regex.Pattern;
import java.util.stream.Stream;
import javax.tools.ToolProvider;

/** README.md is right: its example is run, and its tables name each call of the face with its arguments. */
public final class ReadmeTest extends Checks {
    private static final Path README = Path.of("README.md");
    private static final Pattern BLOCK = Pattern.compile("```java\n(.*?)```", Pattern.DOTALL);
    private static final Pattern ASKED = Pattern.compile("(x\\.\\w+\\(.*\\)); +// (throws \\w+|-?\\w+)(,.*)?");

    public static void main(String[] args) throws Exception {
        for (String name : List.of("theExampleIsRight", "theTablesNameEachCall", "theTablesNameNothingElse")) {
            play(name, ReadmeTest.class.getDeclaredMethod(name));
        }
        end("the README is right");
    }

    static void theExampleIsRight() throws Exception {
        String example = block(Files.readString(README));
        StringBuilder body = new StringBuilder();
        int asked = 0;
        for (String line : example.split("\n")) {
            Matcher m = ASKED.matcher(line);
            if (m.matches()) {
                body.append("told.append(answer(() -> ").append(m.group(1)).append(")).append('\\n');\n");
                asked++;
            } else {
                is("a line that answers nothing", line.isBlank() || line.startsWith("QuorumLog x = new "), true);
                body.append(line).append('\n');
            }
        }
        is("there are lines that answer", asked > 30, true);
        String[] got = playedFrom(body.toString()).split("\n");
        int at = 0;
        for (String line : example.split("\n")) {
            Matcher m = ASKED.matcher(line);
            if (m.matches()) {
                is("in README.md, " + m.group(1), got[at], m.group(2));
                at++;
            }
        }
    }

    /** What the lines tell, compiled as they stand in a main class of their own. */
    private static String playedFrom(String body) throws Exception {
        Path dir = Files.createTempDirectory("readme");
        try {
            Path source = dir.resolve("Example.java");
            Files.writeString(source, "public class Example {\n"
                    + "interface Call { Object on(); }\n"
                    + "static String answer(Call call) {\n"
                    + "try { return String.valueOf(call.on()); }\n"
                    + "catch (RuntimeException e) { return \"throws \" + e.getClass().getSimpleName(); }\n}\n"
                    + "public static String play() {\nStringBuilder told = new StringBuilder();\n"
                    + body + "return told.toString();\n}\n}\n");
            int failed = ToolProvider.getSystemJavaCompiler().run(null, null, null, "-cp",
                    System.getProperty("java.class.path"), "-d", dir.toString(), source.toString());
            if (failed != 0) {
                throw new IllegalStateException("the example does not compile");
            }
            try (URLClassLoader loader = new URLClassLoader(new URL[] {dir.toUri().toURL()})) {
                Method play = loader.loadClass("Example").getMethod("play");
                return (String) play.invoke(null);
            }
        } finally {
            remove(dir);
        }
    }

    private static void remove(Path dir) throws Exception {
        List<Path> all;
        try (Stream<Path> found = Files.walk(dir)) {
            all = found.sorted(Comparator.reverseOrder()).toList();
        }
        for (Path each : all) {
            Files.delete(each);
        }
    }

    static void theTablesNameEachCall() throws Exception {
        String readme = Files.readString(README);
        for (String call : callsOfTheFace()) {
            is("README.md names " + call, readme.contains("`" + call + "`"), true);
        }
    }

    static void theTablesNameNothingElse() throws Exception {
        List<String> calls = callsOfTheFace();
        Matcher named = Pattern.compile("`(\\w+\\([^`]*\\))`").matcher(Files.readString(README));
        while (named.find()) {
            boolean isCall = calls.contains(named.group(1)) || named.group(1).equals("new QuorumLog()");
            is("a call of the face: " + named.group(1), isCall, true);
        }
    }

    /** As they stand in the document, without types. */
    private static List<String> callsOfTheFace() throws Exception {
        List<String> calls = new ArrayList<>();
        Matcher each = Pattern.compile("public (?:int|boolean|double|long) (\\w+)\\(([^)]*)\\)")
                .matcher(block(Files.readString(Document.FILE)));
        while (each.find()) {
            calls.add(each.group(1) + "(" + each.group(2).replace("int ", "") + ")");
        }
        is("calls of the face", calls.size(), 66);
        return calls;
    }

    private static String block(String text) {
        Matcher m = BLOCK.matcher(text);
        return m.find() ? m.group(1) : "";
    }
}
