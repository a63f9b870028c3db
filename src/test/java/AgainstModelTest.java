import java.lang.reflect.InvocationTargetException;
import java.lang.reflect.Method;
import java.util.ArrayList;
import java.util.HashMap;
import java.util.List;
import java.util.Map;
import java.util.Random;

/** Long runs of calls, drawn from fixed seeds, on the program and on the model: every answer must be the same. */
public final class AgainstModelTest {
    private static final Map<String, Method> PROGRAM = new HashMap<>();
    private static final Map<String, Method> MODEL = new HashMap<>();
    private static final List<String> QUESTIONS = new ArrayList<>();
    private static final String[] CHANGES = {"found", "fail", "recover", "cut", "mend", "pass", "sound", "beat",
        "shorten", "handOver", "join", "leave", "deliver", "lose", "twice", "askPut", "askAdd", "askSwap", "hand"};
    /** How often each of CHANGES comes, by the kind of the run. */
    private static final int[][] WEIGHTS = {
        {0, 1, 2, 1, 2, 12, 1, 2, 2, 1, 2, 2, 1, 1, 1, 5, 5, 5, 18},
        {0, 4, 5, 6, 5, 12, 4, 3, 3, 2, 3, 3, 8, 6, 6, 4, 4, 4, 14},
        {0, 1, 2, 1, 2, 20, 1, 1, 5, 3, 10, 10, 2, 1, 1, 2, 2, 2, 8},
        {0, 1, 2, 1, 2, 8, 0, 6, 2, 0, 1, 1, 4, 2, 2, 12, 12, 12, 40},
        {1, 3, 4, 3, 4, 5, 8, 8, 4, 6, 5, 5, 30, 6, 12, 6, 6, 6, 18},
        {0, 2, 2, 4, 4, 4, 8, 1, 1, 9, 1, 1, 20, 2, 20, 1, 1, 1, 3},
        {0, 1, 2, 0, 1, 10, 1, 5, 6, 1, 0, 0, 5, 1, 0, 8, 8, 8, 50},
    };
    /** The kind of run in which leaders alone shorten, so that the logs of others become long. */
    private static final int LONG_LOGS = 6;

    private final Random random;
    private final int kind;
    private final QuorumLog program = new QuorumLog();
    private final Model model = new Model();
    private final StringBuilder calls = new StringBuilder();
    private boolean differs;

    private AgainstModelTest(long seed) {
        random = new Random(seed);
        kind = (int) (seed % WEIGHTS.length);
    }

    public static void main(String[] args) throws Exception {
        int runs = args.length > 0 ? Integer.parseInt(args[0]) : 700;
        for (Method m : QuorumLog.class.getDeclaredMethods()) {
            if (java.lang.reflect.Modifier.isPublic(m.getModifiers())) {
                PROGRAM.put(m.getName(), m);
            }
        }
        for (Method m : Model.class.getDeclaredMethods()) {
            if (PROGRAM.containsKey(m.getName()) && !java.lang.reflect.Modifier.isPrivate(m.getModifiers())) {
                MODEL.put(m.getName(), m);
            }
        }
        for (String name : new java.util.TreeSet<>(PROGRAM.keySet())) {
            if (!List.of(CHANGES).contains(name)) {
                QUESTIONS.add(name);
            }
        }
        for (int seed = 0; seed < runs; seed++) {
            AgainstModelTest run = new AgainstModelTest(seed);
            run.play();
            if (run.differs) {
                System.out.println("seed " + seed + run.calls);
                System.exit(1);
            }
        }
        System.out.println(runs + " runs answered as the model does");
    }

    private void play() throws Exception {
        if (random.nextInt(4) > 0) {
            call("found", 1 + random.nextInt(7));
        }
        for (int i = 0; i < (kind == LONG_LOGS ? 480 : 240) && !differs; i++) {
            String name = pick();
            call(name, arguments(name));
            if (!differs && random.nextInt(3) == 0) {
                String question = QUESTIONS.get(random.nextInt(QUESTIONS.size()));
                call(question, arguments(question));
            }
            if (!differs) {
                call("digest");
            }
        }
    }

    private String pick() {
        int all = 0;
        for (int w : WEIGHTS[kind]) {
            all += w;
        }
        int at = random.nextInt(all);
        int i = 0;
        while (at >= WEIGHTS[kind][i]) {
            at -= WEIGHTS[kind][i];
            i++;
        }
        return CHANGES[i];
    }

    private Object[] arguments(String name) {
        int n = PROGRAM.get(name).getParameterCount();
        Object[] args = new Object[n];
        for (int i = 0; i < n; i++) {
            args[i] = argument(name, i);
        }
        return args;
    }

    private int argument(String name, int place) {
        if (random.nextInt(60) == 0) {
            int[] odd = {-1, 7, 8, 4, 60, 31, 0, 10000, -10000, Integer.MAX_VALUE, Integer.MIN_VALUE};
            return odd[random.nextInt(odd.length)];
        }
        boolean first = place == 0;
        switch (name) {
            case "found":
                return 1 + random.nextInt(7);
            case "pass":
                return random.nextInt(12) == 0 ? 1 + random.nextInt(30) : 1 + random.nextInt(5);
            case "deliver": case "lose": case "twice": case "kindOfMessage": case "senderOf": case "receiverOf":
            case "termOfMessage": case "tells":
                return random.nextInt(Math.max(1, model.messages()));
            case "askPut": case "askAdd": case "askSwap":
                return first ? random.nextInt(4) : place == 1 ? random.nextInt(8) : random.nextInt(5) - 2;
            case "hand":
                return first ? random.nextInt(4) : someLeader();
            case "serialOf": case "isAnswered": case "answerTo": case "roundsToAnswer":
                return random.nextInt(4);
            case "appliedSerial":
                return first ? random.nextInt(7) : random.nextInt(4);
            case "valueOf":
                return first ? random.nextInt(7) : random.nextInt(8);
            case "valuesOf":
                return random.nextInt(8);
            case "termAt": case "kindAt": case "valueAt": case "clientAt": case "serialAt": case "copiesOf":
                return first ? random.nextInt(7) : Math.max(0, model.committed() + random.nextInt(14) - 9);
            case "beat": case "handOver": case "join": case "leave": case "nextOf": case "matchedOf":
                return first ? someLeader() : random.nextInt(7);
            case "shorten":
                if (kind == LONG_LOGS) {
                    return Math.max(0, model.leader());
                }
                return random.nextBoolean() ? someLeader() : random.nextInt(7);
            default:
                return random.nextInt(7);
        }
    }

    private int someLeader() {
        int leader = model.leader();
        return leader < 0 || random.nextInt(6) == 0 ? random.nextInt(7) : leader;
    }

    private void call(String name, Object... args) throws Exception {
        String due = answer(MODEL.get(name), model, args);
        String got = answer(PROGRAM.get(name), program, args);
        calls.append("\n  ").append(name).append(java.util.Arrays.toString(args)).append(" ").append(got);
        if (!due.equals(got)) {
            calls.append(", due is ").append(due);
            differs = true;
        }
    }

    private static String answer(Method m, Object on, Object[] args) throws Exception {
        try {
            return String.valueOf(m.invoke(on, args));
        } catch (InvocationTargetException e) {
            return "throws " + e.getCause().getClass().getName();
        }
    }
}
