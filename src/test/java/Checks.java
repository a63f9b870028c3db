import java.io.PrintWriter;
import java.io.StringWriter;
import java.lang.reflect.InvocationTargetException;
import java.lang.reflect.Method;
import java.util.ArrayList;
import java.util.List;
import java.util.Map;
import java.util.TreeMap;
import java.util.function.Function;
import java.util.function.Predicate;
import java.util.function.Supplier;

/** What the tests share: how they compare and tell faults, and the states that they begin with. */
abstract class Checks {
    static final Class<?> INDEX = IndexOutOfBoundsException.class;
    static final Class<?> ARGUMENT = IllegalArgumentException.class;
    static final Class<?> STATE = IllegalStateException.class;
    static final int[] NO_SERVERS = {-1, 7, Integer.MAX_VALUE, Integer.MIN_VALUE};

    private static final long MOST_SECONDS = 120;
    private static final List<String> FAULTS = new ArrayList<>();
    private static volatile String test = "";

    interface Call {
        Object on();
    }

    // ---- how tests are played

    static {
        Thread guard = new Thread(Checks::endTestsWithoutEnd);
        guard.setDaemon(true);
        guard.start();
    }

    /** A program that is broken may make a test go on for ever; that is a fault, too. */
    private static void endTestsWithoutEnd() {
        try {
            Thread.sleep(1000 * MOST_SECONDS);
        } catch (InterruptedException e) {
            return;
        }
        System.out.println(test + " has no end");
        Runtime.getRuntime().halt(1);
    }

    static void play(String name, Method method) throws Exception {
        test = name;
        try {
            method.invoke(null);
        } catch (InvocationTargetException e) {
            StringWriter trace = new StringWriter();
            e.getCause().printStackTrace(new PrintWriter(trace));
            FAULTS.add(name + " stops with " + trace);
        }
    }

    /** Plays each test that stands for words of the document, and looks whether the document has these words. */
    static void playAllThatSay(Class<?> tests) throws Exception {
        Map<String, String> parts = Document.parts();
        Map<String, Method> sorted = new TreeMap<>();
        for (Method m : tests.getDeclaredMethods()) {
            if (m.isAnnotationPresent(Says.class)) {
                sorted.put(m.getName(), m);
            }
        }
        for (Map.Entry<String, Method> each : sorted.entrySet()) {
            Says says = each.getValue().getAnnotation(Says.class);
            play(each.getKey(), each.getValue());
            for (String words : says.value()) {
                is("in " + says.in() + " there stands: " + words, parts.get(says.in()).contains(words), true);
            }
        }
        end(sorted.size() + " tests of " + tests.getSimpleName() + " hold");
    }

    static void end(String allIsWell) {
        for (String fault : FAULTS) {
            System.out.println(fault);
        }
        System.out.println(FAULTS.isEmpty() ? allIsWell : FAULTS.size() + " faults");
        System.exit(FAULTS.isEmpty() ? 0 : 1);
    }

    // ---- how they compare

    static void is(String what, Object got, Object due) {
        if (!due.equals(got)) {
            FAULTS.add(test + ": " + what + " is " + got + ", due is " + due);
        }
    }

    /** The call throws exactly this, and changes nothing. */
    static void refused(QuorumLog x, Class<?> due, String what, Call call) {
        long before = x.digest();
        Object got;
        try {
            got = call.on();
        } catch (RuntimeException e) {
            got = e.getClass();
        }
        is(what, got, due);
        is("digest behind " + what, x.digest(), before);
    }

    interface Use {
        Object on(QuorumLog x);
    }

    /** What a call answers, or the class of what it throws. */
    static Object outcome(Call call) {
        try {
            return call.on();
        } catch (RuntimeException e) {
            return e.getClass();
        }
    }

    /**
     * What an object answers to some 200 calls, always the same ones. They bring out what the questions alone do not
     * tell: links, yeses, since when a leader leads, what messages and snapshots hold, and what clients ask for.
     */
    static String story(QuorumLog x) {
        StringBuilder told = new StringBuilder();
        tellWhatWouldBe(told, x);
        for (int one = 0; one < 7; one++) {
            for (int other = one + 1; other < 7; other++) {
                int a = one;
                int b = other;
                Object cut = outcome(() -> x.cut(a, b));
                told.append(cut).append(' ').append(cut == STATE ? "" : x.mend(a, b)).append(", ");
            }
        }
        for (int i = 0; i < 8; i++) {
            told.append(x.pass(1)).append(':').append(x.digest()).append(", ");
        }
        for (int i = 0; i < 4; i++) {
            int client = i;
            told.append(outcome(() -> x.hand(client, Math.max(0, x.leader())))).append(", ");
        }
        told.append(x.pass(3)).append(':').append(x.digest()).append(", ");
        for (int i = 0; i < 7; i++) {
            int server = i;
            told.append(outcome(() -> x.fail(server))).append(x.digest()).append(", ");
        }
        for (int i = 0; i < 7; i++) {
            told.append(x.recover(i)).append(", ");
        }
        return told.append(x.pass(30)).append(':').append(x.digest()).toString();
    }

    private static void tellWhatWouldBe(StringBuilder told, QuorumLog x) {
        told.append(x.digest()).append(", ").append(x.meanCommitted()).append(", ").append(x.roundsToLeader());
        told.append(", ").append(x.roundsToAgree()).append(", ");
        for (int c = 0; c < 4; c++) {
            told.append(x.roundsToAnswer(c)).append(", ");
        }
        for (int s = 0; s < 7; s++) {
            int server = s;
            told.append(x.roleIfSounding(s)).append(", ").append(outcome(() -> x.roundsWithout(server))).append(", ");
        }
    }

    /** The call throws exactly this, and changes nothing, neither what can be seen nor what comes of it. */
    static void refuses(String what, Supplier<QuorumLog> state, Class<?> due, Use use) {
        QuorumLog x = state.get();
        is(what, outcome(() -> use.on(x)), due);
        is("what is told behind " + what, story(x), story(state.get()));
    }

    /** The call answers this. */
    static void answers(String what, Supplier<QuorumLog> state, Object due, Use use) {
        QuorumLog x = state.get();
        is(what, outcome(() -> use.on(x)), due);
    }

    // ---- states to begin with

    static QuorumLog founded(int members) {
        QuorumLog x = new QuorumLog();
        x.found(members);
        return x;
    }

    /**
     * Server 0 leads in term 1, all members follow it and have committed its empty entry with index 1,
     * and nothing is under way (with three members behind round 14).
     */
    static QuorumLog settled(int members) {
        QuorumLog x = founded(members);
        x.pass(14);
        return x;
    }

    /** Cuts all links of a server. */
    static void isolate(QuorumLog x, int server) {
        for (int other = 0; other < 7; other++) {
            if (other != server) {
                x.cut(server, other);
            }
        }
    }

    static void rejoin(QuorumLog x, int server) {
        for (int other = 0; other < 7; other++) {
            if (other != server) {
                x.mend(server, other);
            }
        }
    }

    static int put(QuorumLog x, int client, int server, int key, int value) {
        x.askPut(client, key, value);
        return x.hand(client, server);
    }

    /** A single member, server 0, that leads in term 1 and has committed what it appended. */
    static QuorumLog alone() {
        QuorumLog x = founded(1);
        x.sound(0);
        return x;
    }

    /** Hands over puts of client 0 to server 0, which must lead alone, until its log has so many entries. */
    static void fill(QuorumLog x, int entries) {
        while (x.lastOf(0) - x.snapshotOf(0) < entries) {
            put(x, 0, 0, 0, 1);
        }
    }

    static void loseAll(QuorumLog x) {
        while (x.messages() > 0) {
            x.lose(0);
        }
    }

    /** Sends the first message again and again, until so many are under way. */
    static void crowd(QuorumLog x, int messages) {
        while (x.messages() < messages) {
            x.twice(0);
        }
    }

    /** Just most of six are up, and they try in vain for a long time. */
    static QuorumLog lateElection() {
        QuorumLog x = founded(6);
        x.fail(2);
        x.fail(4);
        x.sound(5);
        x.pass(2);
        loseAll(x);
        return x;
    }

    /** The question answers how many rounds are to go, as they go by, and -1 as long as they are more than 30. */
    static void countsDown(Supplier<QuorumLog> start, Function<QuorumLog, Integer> question,
            Predicate<QuorumLog> isReached) {
        QuorumLog real = start.get();
        int rounds = 0;
        while (rounds < 100 && !isReached.test(real)) {
            real.pass(1);
            rounds++;
        }
        is("more than 30 rounds", rounds > 30 && rounds < 100, true);
        QuorumLog x = start.get();
        for (int left = rounds; left >= 0; left--) {
            is("with " + left + " to go", question.apply(x), left > 30 ? -1 : left);
            x.pass(1);
        }
    }

    static String row(QuorumLog x) {
        return rowFrom(x, 0);
    }

    /** The messages from a place on: kind, sender and receiver, term, and what it tells. */
    static String rowFrom(QuorumLog x, int first) {
        StringBuilder row = new StringBuilder();
        for (int i = first; i < x.messages(); i++) {
            row.append(x.kindOfMessage(i)).append(':').append(x.senderOf(i)).append('>').append(x.receiverOf(i))
                    .append(" t").append(x.termOfMessage(i)).append(" i").append(x.tells(i)).append("; ");
        }
        return row.toString();
    }

    static String lastMessage(QuorumLog x) {
        return rowFrom(x, x.messages() - 1);
    }

    /** The place of the first message of this kind between these two, or -1. */
    static int find(QuorumLog x, int kind, int from, int to) {
        for (int i = 0; i < x.messages(); i++) {
            if (x.kindOfMessage(i) == kind && x.senderOf(i) == from && x.receiverOf(i) == to) {
                return i;
            }
        }
        return -1;
    }

    /** Delivers the last message of this kind between these two, which must be there and arrive. */
    static void lastArrives(QuorumLog x, int kind, int from, int to) {
        int at = -1;
        for (int i = 0; i < x.messages(); i++) {
            if (x.kindOfMessage(i) == kind && x.senderOf(i) == from && x.receiverOf(i) == to) {
                at = i;
            }
        }
        is("a message " + kind + ":" + from + ">" + to + " in " + row(x), at >= 0 && x.deliver(at), true);
    }

    static void loseAllBut(QuorumLog x, int kind, int from, int to) {
        for (int i = x.messages() - 1; i >= 0; i--) {
            if (i != find(x, kind, from, to)) {
                x.lose(i);
            }
        }
    }

    /** They fail and recover, and so follow nobody. */
    static void restart(QuorumLog x, int... servers) {
        for (int s : servers) {
            x.fail(s);
            x.recover(s);
        }
    }

    /** Of three members, one leads in a greater term, by the yes and the vote of another; all other messages are lost. */
    static void leadsAnew(QuorumLog x, int server, int other) {
        restart(x, server, other);
        loseAll(x);
        x.sound(server);
        arrives(x, 1, server, other);
        arrives(x, 2, other, server);
        arrives(x, 3, server, other);
        arrives(x, 4, other, server);
        is("leads", x.roleOf(server), 3);
        loseAll(x);
    }

    /** A leader sends, and only what it sends to this one stays under way, at the end of the row. */
    static void sendsTo(QuorumLog x, int leader, int server) {
        int before = x.messages();
        x.beat(leader);
        for (int i = x.messages() - 1; i >= before; i--) {
            if (x.receiverOf(i) != server) {
                x.lose(i);
            }
        }
    }

    static String state(QuorumLog x, int server) {
        return "role " + x.roleOf(server) + " term " + x.termOf(server) + " voted " + x.votedFor(server) + " follows "
                + x.follows(server) + " waited " + x.waitedOf(server);
    }

    /** Delivers the first message of this kind between these two, which must be there and arrive. */
    static void arrives(QuorumLog x, int kind, int from, int to) {
        int at = find(x, kind, from, to);
        is("a message " + kind + ":" + from + ">" + to + " in " + row(x), at >= 0 && x.deliver(at), true);
    }

    /** The sounder gets yeses of both, stands, gets the votes of both, and leads. */
    static void elects(QuorumLog x, int sounder, int one, int other) {
        for (int kind = 1; kind <= 3; kind += 2) {
            arrives(x, kind, sounder, one);
            arrives(x, kind, sounder, other);
            arrives(x, kind + 1, one, sounder);
            arrives(x, kind + 1, other, sounder);
        }
        is("leads", x.roleOf(sounder), 3);
    }

    /** Three members; server 0 leads and shortens its log, the others have so many entries, and all is committed. */
    static QuorumLog longLogs(int entries) {
        QuorumLog x = settled(3);
        for (int i = 2; i <= entries; i++) {
            put(x, i % 4, 0, i % 8, i);
            x.pass(4);
            if (x.lastOf(0) - x.snapshotOf(0) > 30) {
                x.shorten(0);
            }
        }
        loseAll(x);
        return x;
    }

    /** A log with an entry of each kind: empty, put, add, swap and members, from index 1 to 5. */
    static QuorumLog allKinds() {
        QuorumLog x = settled(3);
        x.askPut(0, 1, 10);
        x.hand(0, 0);
        x.askAdd(1, 1, 20);
        x.hand(1, 0);
        x.askSwap(3, 1, 29, 30);
        x.hand(3, 0);
        x.join(0, 6);
        return x;
    }

    /** Server 0 leads yet in term 1, cut off; server 1 leads in term 2. */
    static QuorumLog twoLeaders() {
        QuorumLog x = settled(3);
        isolate(x, 0);
        x.pass(4);
        x.sound(1);
        x.pass(6);
        return x;
    }

    static boolean isLed(QuorumLog x) {
        for (int l = 0; l < 7; l++) {
            boolean isLed = x.roleOf(l) == 3;
            for (int s = 0; s < 7; s++) {
                isLed &= s == l || !x.isUp(s) || !x.sees(l, s) || x.follows(s) == l;
            }
            if (isLed) {
                return true;
            }
        }
        return false;
    }

    static void unchanged(QuorumLog x, String what, Call call, Object due) {
        long before = x.digest();
        is(what, call.on(), due);
        is("digest behind " + what, x.digest(), before);
        is(what + ", once more", call.on(), due);
    }

    /** Server 1 has a long log with a request at its end, and server 2, whom it needs, has nothing of it. */
    static QuorumLog lateAnswer() {
        QuorumLog x = settled(3);
        isolate(x, 2);
        for (int i = 0; i < 36; i++) {
            put(x, 1 + i % 3, 0, 0, 1);
            x.pass(4);
        }
        put(x, 0, 0, 0, 1);
        loseAll(x);
        x.beat(0);
        x.deliver(0);
        x.fail(0);
        rejoin(x, 2);
        loseAll(x);
        return x;
    }

    static boolean isAgreed(QuorumLog x) {
        int l = x.leader();
        boolean isAgreed = l >= 0;
        for (int s = 0; s < 7 && isAgreed; s++) {
            boolean counts = s == l || x.isUp(s) && x.sees(l, s);
            isAgreed = !counts || x.committedOf(s) >= x.lastOf(l);
        }
        return isAgreed;
    }

    /** Delivers what is under way behind the first ones, until there is nothing more. */
    static void deliverAllBut(QuorumLog x, int first) {
        for (int i = 0; i < 100 && x.messages() > first; i++) {
            x.deliver(first);
        }
    }

    static long digestByHand(QuorumLog x) {
        List<Integer> v = new ArrayList<>(List.of(x.round(), x.lost(), x.messages(), x.leader(), x.leaders(),
                x.committed()));
        for (int m = 0; m < x.messages(); m++) {
            v.addAll(List.of(x.kindOfMessage(m), x.senderOf(m), x.receiverOf(m), x.termOfMessage(m), x.tells(m)));
        }
        for (int c = 0; c < 4; c++) {
            v.add(x.serialOf(c));
            v.add(x.isAnswered(c) ? 1 : 0);
            if (x.isAnswered(c)) {
                v.add(x.answerTo(c));
            }
        }
        for (int s = 0; s < 7; s++) {
            v.addAll(List.of(x.isUp(s) ? 1 : 0, x.roleOf(s), x.termOf(s), x.votedFor(s), x.follows(s)));
            v.addAll(List.of(x.waitedOf(s), x.snapshotOf(s), x.lastOf(s), x.lastTermOf(s), x.committedOf(s)));
            v.addAll(List.of(x.membersOf(s), x.couldWin(s) ? 1 : 0));
            for (int i = x.snapshotOf(s) + 1; i <= x.lastOf(s); i++) {
                v.addAll(List.of(x.termAt(s, i), x.kindAt(s, i), x.valueAt(s, i), x.clientAt(s, i)));
                v.addAll(List.of(x.serialAt(s, i), x.copiesOf(s, i)));
            }
            for (int k = 0; k < 8; k++) {
                v.add(x.valueOf(s, k));
            }
            for (int c = 0; c < 4; c++) {
                v.add(x.appliedSerial(s, c));
            }
            for (int o = 0; o < 7; o++) {
                if (x.roleOf(s) == 3 && o != s) {
                    v.add(x.nextOf(s, o));
                    v.add(x.matchedOf(s, o));
                }
            }
            for (int o = 0; o < 7; o++) {
                v.add(x.agreeUpTo(s, o));
            }
        }
        long d = 2423;
        for (int each : v) {
            d = d * 31 + each;
        }
        return d;
    }
}
