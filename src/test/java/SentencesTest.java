import java.lang.reflect.Method;
import java.util.ArrayList;
import java.util.List;
import java.util.Map;
import java.util.regex.Matcher;
import java.util.regex.Pattern;

/**
 * Each sentence of the document has a test that stands for it (by Says), but for those listed here, which name no
 * boundary case: they say what things are for, where they stand in the interface, or what is left free.
 */
public final class SentencesTest extends Checks {
    private static final List<Class<?>> TESTS = List.of(Terms1Test.class, Terms2Test.class, Terms3Test.class,
            ArrivalsTest.class, Terms4Test.class, AnswersTest.class, RefusalsTest.class);
    private static final List<String> NO_BOUNDARY = List.of(
            "A log that several servers keep alike, over a network that holds up, loses, doubles and mixes up messages,"
            + " while servers fail and come back.",
            "; what later calls answer is free.",
            "The servers elect leaders by terms; a leader puts the requests of clients in order in its log, and sends"
            + " them to the others; what most of them have is committed, and each server applies it to its table, each"
            + " request once. Servers shorten their logs by snapshots, and a leader sends these to who is too far"
            + " behind; members join and leave one at a time; a leader can hand over. One can ask who leads, what each"
            + " server has, where logs differ, and how long it will be till there is a leader, a request is answered,"
            + " or all agree. All numbers are whole. / is cut.",
            "A round goes like this: 1. Each", " 2. As many", " 3. The round", "What arrives, by kinds.", "Then:",
            "---- servers and links.", "---- messages.", "---- clients.", "---- what a server has.",
            "---- all together.",
            "How the state is held inside the object is free, as are the speed of each call, the text of toString and"
            + " the behaviour of equals and hashCode. Use of one object from several threads at once is not promised to"
            + " be safe. Nothing is promised beyond the answers and state changes described above, and nothing about an"
            + " object after its 512th call.");

    public static void main(String[] args) throws Exception {
        play("sentences", SentencesTest.class.getDeclaredMethod("eachSentenceHasATest"));
        end("each sentence has a test");
    }

    static void eachSentenceHasATest() throws Exception {
        for (Map.Entry<String, String> part : Document.parts().entrySet()) {
            boolean[] said = new boolean[part.getValue().length()];
            Matcher heads = Pattern.compile("Ahead of the calls [^:]*: (?=----)").matcher(part.getValue());
            while (heads.find()) {
                java.util.Arrays.fill(said, heads.start(), heads.end(), true);
            }
            for (String words : wordsOf(part.getKey())) {
                mark(said, part.getValue(), words);
            }
            for (String left : leftOf(part.getValue(), said)) {
                is("tests that stand for \"" + left + "\" in " + part.getKey(), 0, 1);
            }
        }
    }

    private static List<String> wordsOf(String part) {
        List<String> all = new ArrayList<>(NO_BOUNDARY);
        for (Class<?> tests : TESTS) {
            for (Method m : tests.getDeclaredMethods()) {
                Says says = m.getAnnotation(Says.class);
                if (says != null && says.in().equals(part)) {
                    all.addAll(List.of(says.value()));
                }
            }
        }
        return all;
    }

    private static void mark(boolean[] said, String text, String words) {
        for (int at = text.indexOf(words); at >= 0; at = text.indexOf(words, at + 1)) {
            java.util.Arrays.fill(said, at, at + words.length(), true);
        }
    }

    /** The pieces that no words cover, but for signs between them. */
    private static List<String> leftOf(String text, boolean[] said) {
        List<String> left = new ArrayList<>();
        StringBuilder piece = new StringBuilder();
        for (int i = 0; i <= text.length(); i++) {
            if (i < text.length() && !said[i]) {
                piece.append(text.charAt(i));
                continue;
            }
            if (piece.toString().matches(".*[A-Za-z0-9].*")) {
                left.add(piece.toString().trim());
            }
            piece.setLength(0);
        }
        return left;
    }
}
