import java.io.IOException;
import java.nio.file.Files;
import java.nio.file.Path;
import java.util.LinkedHashMap;
import java.util.Map;

/** The document, by its parts: what is said ahead, the sections of Terms, and the promises. */
final class Document {
    static final Path FILE = Path.of("../shared/DOC.md");

    private Document() {
    }

    /** The parts by their names, each as one line. */
    static Map<String, String> parts() throws IOException {
        Map<String, StringBuilder> parts = new LinkedHashMap<>();
        String part = "Ahead";
        boolean inFace = false;
        for (String line : Files.readString(FILE).split("\n")) {
            if (line.startsWith("```java") || inFace) {
                inFace = !line.equals("```");
            } else if (startsPart(line)) {
                part = partOf(line);
            } else if (isProse(line)) {
                parts.computeIfAbsent(part, name -> new StringBuilder()).append(prose(line)).append(' ');
            }
        }
        Map<String, String> all = new LinkedHashMap<>();
        parts.forEach((name, text) -> all.put(name, oneLine(text.toString())));
        return all;
    }

    private static boolean startsPart(String line) {
        return line.startsWith("## ") || line.startsWith("== ");
    }

    private static String partOf(String line) {
        if (line.startsWith("== ")) {
            return "Terms " + line.substring(3, 4);
        }
        if (line.startsWith("## Promise ")) {
            return line.substring(3, line.indexOf(':'));
        }
        return line.equals("## Terms") ? "Terms 0" : line.startsWith("## What it is") ? "Ahead" : line.substring(3);
    }

    private static boolean isProse(String line) {
        return !line.startsWith("# ") && !line.startsWith("```") && !line.startsWith("- `");
    }

    /** Without what stands ahead of it: the call with its types, and the name of its first argument. */
    private static String prose(String line) {
        return line.replaceFirst("^`[^`]*`: (- `.*)?", "");
    }

    static String oneLine(String text) {
        return text.trim().replaceAll("\\s+", " ");
    }
}
