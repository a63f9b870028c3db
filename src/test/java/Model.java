import java.util.ArrayList;
import java.util.HashMap;
import java.util.HashSet;
import java.util.List;
import java.util.Map;
import java.util.TreeMap;
import java.util.TreeSet;

/**
 * The document once more, sentence by sentence, with the library's collections and without a thought of cost.
 * It shares nothing with the program, so that a slip in one of both shows as a difference.
 */
final class Model {
    static final class Entry {
        int term, kind, client = -1, serial, key, expected, value;
        TreeSet<Integer> members;
    }

    static final class Table {
        int[] values = new int[8];
        int[] serials = new int[4];
        int[] gave = new int[4];

        Table copy() {
            Table t = new Table();
            t.values = values.clone();
            t.serials = serials.clone();
            t.gave = gave.clone();
            return t;
        }
    }

    static final class Snap {
        int index, term;
        Table table = new Table();
        TreeSet<Integer> members = new TreeSet<>();
    }

    static final class Server {
        int number;
        boolean up = true;
        int term, voted = -1;
        TreeMap<Integer, Entry> log = new TreeMap<>();
        Snap snap;
        int role, follows = -1, waited, committed;
        Table table = new Table();
        Map<Integer, Integer> next = new HashMap<>();
        Map<Integer, Integer> matched = new HashMap<>();
        HashSet<Integer> yes = new HashSet<>();
        int stepsLed;

        Server copy() {
            Server s = new Server();
            s.number = number;
            s.up = up;
            s.term = term;
            s.voted = voted;
            s.log = new TreeMap<>(log);
            s.snap = snap;
            s.role = role;
            s.follows = follows;
            s.waited = waited;
            s.committed = committed;
            s.table = table.copy();
            s.next = new HashMap<>(next);
            s.matched = new HashMap<>(matched);
            s.yes = new HashSet<>(yes);
            s.stepsLed = stepsLed;
            return s;
        }

        int last() {
            return log.isEmpty() ? snap.index : log.lastKey();
        }

        int lastTerm() {
            return log.isEmpty() ? snap.term : log.lastEntry().getValue().term;
        }

        TreeSet<Integer> sees() {
            for (Entry e : log.descendingMap().values()) {
                if (e.kind == 4) {
                    return e.members;
                }
            }
            return snap.members;
        }

        int lastMembersIndex() {
            for (Map.Entry<Integer, Entry> e : log.descendingMap().entrySet()) {
                if (e.getValue().kind == 4) {
                    return e.getKey();
                }
            }
            return Integer.MIN_VALUE;
        }

        boolean most(HashSet<Integer> some) {
            HashSet<Integer> in = new HashSet<>(some);
            in.retainAll(sees());
            return in.size() > sees().size() / 2.0;
        }

        int patience() {
            return 6 + (3 * number + 5 * term) % 7;
        }

        boolean asGood(int t, int i) {
            return t > lastTerm() || t == lastTerm() && i >= last();
        }

        Integer termAt(int index) {
            if (log.containsKey(index)) {
                return log.get(index).term;
            }
            return index == snap.index ? Integer.valueOf(snap.term) : null;
        }
    }

    static final class Msg {
        int kind, from, to, term;
        int lastIndex, lastTerm;
        boolean yes;
        int prev, prevTerm, leaderCommitted;
        List<Entry> entries = new ArrayList<>();
        int index;
        Snap snap;
    }

    static final class Request {
        Entry what;
        boolean answered;
        int answer;
    }

    List<Server> servers = new ArrayList<>();
    List<Msg> row = new ArrayList<>();
    HashSet<Integer> cuts = new HashSet<>();
    int[] serials = new int[4];
    Request[] requests = new Request[4];
    int round;
    int lost;

    Model() {
        begin(3);
    }

    private Model copy() {
        Model m = new Model();
        m.servers.clear();
        for (Server s : servers) {
            m.servers.add(s.copy());
        }
        m.row = new ArrayList<>(row);
        m.cuts = new HashSet<>(cuts);
        m.serials = serials.clone();
        for (int c = 0; c < 4; c++) {
            if (requests[c] != null) {
                Request r = new Request();
                r.what = requests[c].what;
                r.answered = requests[c].answered;
                r.answer = requests[c].answer;
                m.requests[c] = r;
            }
        }
        m.round = round;
        m.lost = lost;
        return m;
    }

    private void begin(int members) {
        servers.clear();
        row.clear();
        cuts.clear();
        serials = new int[4];
        requests = new Request[4];
        round = 0;
        lost = 0;
        for (int i = 0; i < 7; i++) {
            Server s = new Server();
            s.number = i;
            s.snap = new Snap();
            for (int k = 0; k < members; k++) {
                s.snap.members.add(k);
            }
            servers.add(s);
        }
    }

    // ---- sending and handling

    private void send(Msg m) {
        if (row.size() == 60) {
            lost++;
        } else {
            row.add(m);
        }
    }

    private Msg message(int kind, int from, int to, int term) {
        Msg m = new Msg();
        m.kind = kind;
        m.from = from;
        m.to = to;
        m.term = term;
        return m;
    }

    private void sendSnapshotOrEntries(Server s, int to) {
        int next = s.next.get(to);
        if (next <= s.snap.index) {
            Msg m = message(7, s.number, to, s.term);
            m.snap = s.snap;
            send(m);
            return;
        }
        Msg m = message(5, s.number, to, s.term);
        m.prev = next - 1;
        m.prevTerm = s.termAt(next - 1);
        m.leaderCommitted = s.committed;
        for (Entry e : s.log.tailMap(next).values()) {
            if (m.entries.size() < 4) {
                m.entries.add(e);
            }
        }
        send(m);
    }

    private int sendToMembers(Server s) {
        int n = 0;
        for (int k : s.sees()) {
            if (k != s.number) {
                sendSnapshotOrEntries(s, k);
                n++;
            }
        }
        return n;
    }

    private void sounding(Server s) {
        if (s.log.size() >= 48) {
            s.waited = 0;
            return;
        }
        s.role = 1;
        s.follows = -1;
        s.waited = 0;
        s.yes.clear();
        s.yes.add(s.number);
        if (s.most(s.yes)) {
            standing(s);
            return;
        }
        for (int k : s.sees()) {
            if (k != s.number) {
                Msg m = message(1, s.number, k, s.term + 1);
                m.lastIndex = s.last();
                m.lastTerm = s.lastTerm();
                send(m);
            }
        }
    }

    private void standing(Server s) {
        s.term++;
        s.role = 2;
        s.follows = -1;
        s.waited = 0;
        s.voted = s.number;
        s.yes.clear();
        s.yes.add(s.number);
        if (s.most(s.yes)) {
            leading(s);
            return;
        }
        for (int k : s.sees()) {
            if (k != s.number) {
                Msg m = message(3, s.number, k, s.term);
                m.lastIndex = s.last();
                m.lastTerm = s.lastTerm();
                send(m);
            }
        }
    }

    private void leading(Server s) {
        s.role = 3;
        s.follows = -1;
        s.stepsLed = 0;
        for (int k = 0; k < 7; k++) {
            s.next.put(k, s.last() + 1);
            s.matched.put(k, 0);
        }
        Entry e = new Entry();
        e.term = s.term;
        s.log.put(s.last() + 1, e);
        sendToMembers(s);
        look(s);
    }

    private void look(Server s) {
        int found = -1;
        for (int index : s.log.keySet()) {
            if (s.log.get(index).term == s.term) {
                HashSet<Integer> have = new HashSet<>();
                for (int k : s.sees()) {
                    if (k == s.number || s.matched.get(k) >= index) {
                        have.add(k);
                    }
                }
                if (s.most(have)) {
                    found = index;
                }
            }
        }
        if (found > s.committed) {
            applyUpTo(s, found);
        }
        int lastMembers = s.lastMembersIndex();
        if (!s.sees().contains(s.number) && lastMembers > 0 && s.committed >= lastMembers) {
            s.role = 0;
            s.follows = -1;
        }
    }

    private void applyUpTo(Server s, int index) {
        for (int i = s.committed + 1; i <= index; i++) {
            Entry e = s.log.get(i);
            if (e.kind >= 1 && e.kind <= 3) {
                applyRequest(s, e);
            }
        }
        s.committed = index;
    }

    private void applyRequest(Server s, Entry e) {
        Table t = s.table;
        if (e.serial > t.serials[e.client]) {
            t.serials[e.client] = e.serial;
            switch (e.kind) {
                case 1 -> {
                    t.gave[e.client] = t.values[e.key];
                    t.values[e.key] = e.value;
                }
                case 2 -> {
                    t.values[e.key] += e.value;
                    t.gave[e.client] = t.values[e.key];
                }
                default -> {
                    if (t.values[e.key] == e.expected) {
                        t.values[e.key] = e.value;
                        t.gave[e.client] = 1;
                    } else {
                        t.gave[e.client] = 0;
                    }
                }
            }
        }
        Request own = requests[e.client];
        if (s.role == 3 && own != null && own.what.serial == e.serial) {
            own.answered = true;
            own.answer = t.gave[e.client];
        }
    }

    private boolean handle(Msg m) {
        Server s = servers.get(m.to);
        if (!s.up || cuts.contains(pair(m.from, m.to))) {
            lost++;
            return false;
        }
        boolean exempt = m.kind == 1 || m.kind == 2 && m.yes;
        if (!exempt && m.term > s.term) {
            s.term = m.term;
            s.voted = -1;
            s.role = 0;
            s.follows = -1;
        }
        switch (m.kind) {
            case 1 -> arriveSound(s, m);
            case 2 -> {
                if (m.yes && s.role == 1 && m.term == s.term + 1) {
                    s.yes.add(m.from);
                    if (s.most(s.yes)) {
                        standing(s);
                    }
                }
            }
            case 3 -> arriveCall(s, m);
            case 4 -> {
                if (m.yes && s.role == 2 && m.term == s.term) {
                    s.yes.add(m.from);
                    if (s.most(s.yes)) {
                        leading(s);
                    }
                }
            }
            case 5 -> arriveEntries(s, m);
            case 6 -> arriveAnswer(s, m);
            case 7 -> arriveSnapshot(s, m);
            default -> {
                if (m.term == s.term && s.role != 3 && s.sees().contains(s.number) && s.log.size() < 48) {
                    standing(s);
                }
            }
        }
        return true;
    }

    private void arriveSound(Server s, Msg m) {
        boolean yes = m.term > s.term && s.asGood(m.lastTerm, m.lastIndex) && s.role != 3
                && (s.follows == -1 || s.waited >= 4);
        Msg back = message(2, s.number, m.from, yes ? m.term : s.term);
        back.yes = yes;
        send(back);
    }

    private void arriveCall(Server s, Msg m) {
        Msg back = message(4, s.number, m.from, s.term);
        if (m.term == s.term && (s.voted == -1 || s.voted == m.from) && s.asGood(m.lastTerm, m.lastIndex)) {
            back.yes = true;
            s.voted = m.from;
            s.waited = 0;
        }
        send(back);
    }

    private void arriveEntries(Server s, Msg m) {
        Msg back = message(6, s.number, m.from, s.term);
        if (m.term < s.term) {
            send(back);
            return;
        }
        s.role = 0;
        s.follows = m.from;
        s.waited = 0;
        boolean has = m.prev <= s.snap.index || s.log.containsKey(m.prev) && s.log.get(m.prev).term == m.prevTerm;
        if (!has) {
            if (s.last() < m.prev) {
                back.index = s.last();
            } else {
                int first = m.prev;
                while (s.log.containsKey(first - 1) && s.log.get(first - 1).term == s.log.get(m.prev).term) {
                    first--;
                }
                back.index = Math.max(first - 1, s.committed);
            }
            send(back);
            return;
        }
        int index = m.prev;
        for (Entry e : m.entries) {
            index++;
            boolean in = s.log.containsKey(index) && s.log.get(index).term == e.term;
            if (!in && index > s.snap.index) {
                s.log.tailMap(index).clear();
                s.log.put(index, e);
            }
        }
        int upTo = Math.min(m.leaderCommitted, index);
        if (upTo > s.committed) {
            applyUpTo(s, upTo);
        }
        back.yes = true;
        back.index = index;
        send(back);
    }

    private void arriveAnswer(Server s, Msg m) {
        if (s.role != 3 || m.term != s.term) {
            return;
        }
        if (m.yes) {
            if (m.index > s.matched.get(m.from)) {
                s.matched.put(m.from, m.index);
                s.next.put(m.from, m.index + 1);
            }
            look(s);
            if (s.role == 3 && s.next.get(m.from) <= s.last()) {
                sendSnapshotOrEntries(s, m.from);
            }
        } else {
            s.next.put(m.from, 1 + Math.max(m.index, s.matched.get(m.from)));
            sendSnapshotOrEntries(s, m.from);
        }
    }

    private void arriveSnapshot(Server s, Msg m) {
        Msg back = message(6, s.number, m.from, s.term);
        if (m.term < s.term) {
            send(back);
            return;
        }
        s.role = 0;
        s.follows = m.from;
        s.waited = 0;
        if (m.snap.index > s.committed) {
            boolean had = s.log.containsKey(m.snap.index) && s.log.get(m.snap.index).term == m.snap.term;
            if (had) {
                s.log.headMap(m.snap.index, true).clear();
            } else {
                s.log.clear();
            }
            s.snap = m.snap;
            s.committed = m.snap.index;
            s.table = m.snap.table.copy();
        }
        back.yes = true;
        back.index = m.snap.index;
        send(back);
    }

    private void oneRound() {
        for (Server s : servers) {
            if (!s.up) {
                continue;
            }
            if (s.role == 3) {
                s.stepsLed++;
                if (s.stepsLed % 2 == 0) {
                    sendToMembers(s);
                }
            } else if (s.sees().contains(s.number)) {
                s.waited++;
                if (s.waited >= s.patience()) {
                    sounding(s);
                }
            }
        }
        int n = row.size();
        for (int i = 0; i < n; i++) {
            handle(row.remove(0));
        }
        round++;
    }

    private void down(Server s) {
        s.up = false;
        s.role = 0;
        s.follows = -1;
        s.waited = 0;
        s.committed = s.snap.index;
        s.table = s.snap.table.copy();
    }

    // ---- checks

    private static int pair(int one, int other) {
        return Math.min(one, other) * 10 + Math.max(one, other);
    }

    private static void range(int value, int size) {
        if (value < 0 || value >= size) {
            throw new IndexOutOfBoundsException();
        }
    }

    private static void state(boolean refused) {
        if (refused) {
            throw new IllegalStateException();
        }
    }

    private static void argument(boolean refused) {
        if (refused) {
            throw new IllegalArgumentException();
        }
    }

    private Server server(int n) {
        range(n, 7);
        return servers.get(n);
    }

    private Msg msg(int n) {
        range(n, row.size());
        return row.get(n);
    }

    private Entry entry(int server, int index) {
        Entry e = server(server).log.get(index);
        if (e == null) {
            throw new IndexOutOfBoundsException();
        }
        return e;
    }

    private int up() {
        return (int) servers.stream().filter(s -> s.up).count();
    }

    // ---- the face

    int found(int members) {
        argument(members < 1 || members > 7);
        begin(members);
        int most = 0;
        while (most * 2 <= members) {
            most++;
        }
        return most;
    }

    int fail(int server) {
        state(!server(server).up);
        down(servers.get(server));
        return up();
    }

    int recover(int server) {
        state(server(server).up);
        servers.get(server).up = true;
        return up();
    }

    int cut(int one, int other) {
        range(one, 7);
        range(other, 7);
        argument(one == other);
        state(cuts.contains(pair(one, other)));
        cuts.add(pair(one, other));
        return cuts.size();
    }

    int mend(int one, int other) {
        range(one, 7);
        range(other, 7);
        argument(one == other);
        state(!cuts.contains(pair(one, other)));
        cuts.remove(pair(one, other));
        return cuts.size();
    }

    int pass(int rounds) {
        argument(rounds < 1 || rounds > 30);
        int before = lost;
        for (int i = 0; i < rounds; i++) {
            oneRound();
        }
        return lost - before;
    }

    int sound(int server) {
        Server s = server(server);
        state(!s.up || s.role == 3 || !s.sees().contains(server));
        sounding(s);
        return s.role;
    }

    int beat(int server) {
        state(server(server).role != 3);
        return sendToMembers(servers.get(server));
    }

    int shorten(int server) {
        Server s = server(server);
        state(!s.up || s.committed <= s.snap.index);
        Snap made = new Snap();
        made.index = s.committed;
        made.term = s.termAt(s.committed);
        made.table = s.table.copy();
        made.members = s.snap.members;
        for (Entry e : s.log.headMap(s.committed, true).values()) {
            if (e.kind == 4) {
                made.members = e.members;
            }
        }
        int before = s.log.size();
        s.log.headMap(s.committed, true).clear();
        s.snap = made;
        return before - s.log.size();
    }

    int handOver(int leader, int server) {
        range(leader, 7);
        range(server, 7);
        argument(leader == server);
        Server s = servers.get(leader);
        state(s.role != 3 || !s.sees().contains(server) || s.matched.get(server) < s.last());
        send(message(8, leader, server, s.term));
        return row.size();
    }

    private boolean changeRefused(Server s) {
        if (s.role != 3 || s.log.size() >= 40) {
            return true;
        }
        boolean own = s.snap.term == s.term;
        for (Entry e : s.log.headMap(s.committed, true).values()) {
            own |= e.term == s.term;
        }
        return !own || s.lastMembersIndex() > s.committed;
    }

    private int changeMembers(Server s, TreeSet<Integer> members) {
        Entry e = new Entry();
        e.kind = 4;
        e.term = s.term;
        e.members = members;
        int index = s.last() + 1;
        s.log.put(index, e);
        return index;
    }

    int join(int leader, int server) {
        range(leader, 7);
        range(server, 7);
        Server s = servers.get(leader);
        state(changeRefused(s) || s.sees().contains(server));
        TreeSet<Integer> more = new TreeSet<>(s.sees());
        more.add(server);
        int index = changeMembers(s, more);
        s.next.put(server, index);
        s.matched.put(server, 0);
        look(s);
        return index;
    }

    int leave(int leader, int server) {
        range(leader, 7);
        range(server, 7);
        Server s = servers.get(leader);
        state(changeRefused(s) || !s.sees().contains(server) || s.sees().size() == 1);
        TreeSet<Integer> less = new TreeSet<>(s.sees());
        less.remove(server);
        int index = changeMembers(s, less);
        look(s);
        return index;
    }

    int messages() {
        return row.size();
    }

    boolean deliver(int message) {
        msg(message);
        return handle(row.remove(message));
    }

    int lose(int message) {
        msg(message);
        row.remove(message);
        lost++;
        return row.size();
    }

    int twice(int message) {
        Msg m = msg(message);
        state(row.size() == 60);
        row.add(m);
        return row.size();
    }

    int kindOfMessage(int message) {
        return msg(message).kind;
    }

    int senderOf(int message) {
        return msg(message).from;
    }

    int receiverOf(int message) {
        return msg(message).to;
    }

    int termOfMessage(int message) {
        return msg(message).term;
    }

    int tells(int message) {
        Msg m = msg(message);
        return switch (m.kind) {
            case 1, 3 -> m.lastIndex;
            case 2, 4 -> m.yes ? 1 : 0;
            case 5 -> m.prev + m.entries.size();
            case 6 -> m.index;
            case 7 -> m.snap.index;
            default -> 0;
        };
    }

    private int ask(int client, int kind, int key, int expected, int value) {
        range(client, 4);
        range(key, 8);
        argument(Math.abs((long) expected) > 9999 || Math.abs((long) value) > 9999);
        state(requests[client] != null && !requests[client].answered);
        serials[client]++;
        Request r = new Request();
        r.what = new Entry();
        r.what.kind = kind;
        r.what.client = client;
        r.what.serial = serials[client];
        r.what.key = key;
        r.what.expected = expected;
        r.what.value = value;
        requests[client] = r;
        return serials[client];
    }

    int askPut(int client, int key, int value) {
        return ask(client, 1, key, 0, value);
    }

    int askAdd(int client, int key, int value) {
        return ask(client, 2, key, 0, value);
    }

    int askSwap(int client, int key, int expected, int value) {
        return ask(client, 3, key, expected, value);
    }

    int hand(int client, int server) {
        range(client, 4);
        Server s = server(server);
        Request r = requests[client];
        state(r == null || r.answered || s.role != 3 || s.log.size() >= 40);
        Entry e = new Entry();
        e.term = s.term;
        e.kind = r.what.kind;
        e.client = client;
        e.serial = r.what.serial;
        e.key = r.what.key;
        e.expected = r.what.expected;
        e.value = r.what.value;
        int index = s.last() + 1;
        s.log.put(index, e);
        look(s);
        return index;
    }

    int serialOf(int client) {
        range(client, 4);
        return serials[client];
    }

    boolean isAnswered(int client) {
        range(client, 4);
        return requests[client] != null && requests[client].answered;
    }

    int answerTo(int client) {
        state(!isAnswered(client));
        return requests[client].answer;
    }

    int round() {
        return round;
    }

    int lost() {
        return lost;
    }

    boolean isUp(int server) {
        return server(server).up;
    }

    int roleOf(int server) {
        return server(server).role;
    }

    int termOf(int server) {
        return server(server).term;
    }

    int votedFor(int server) {
        return server(server).voted;
    }

    int follows(int server) {
        return server(server).follows;
    }

    int waitedOf(int server) {
        return server(server).waited;
    }

    int patienceOf(int server) {
        return server(server).patience();
    }

    int snapshotOf(int server) {
        return server(server).snap.index;
    }

    int lastOf(int server) {
        return server(server).last();
    }

    int lastTermOf(int server) {
        return server(server).lastTerm();
    }

    int committedOf(int server) {
        return server(server).committed;
    }

    int membersOf(int server) {
        return server(server).sees().size();
    }

    boolean sees(int server, int other) {
        range(other, 7);
        return server(server).sees().contains(other);
    }

    int termAt(int server, int index) {
        Integer term = server(server).termAt(index);
        if (term == null) {
            throw new IndexOutOfBoundsException();
        }
        return term;
    }

    int kindAt(int server, int index) {
        return entry(server, index).kind;
    }

    int valueAt(int server, int index) {
        Entry e = entry(server, index);
        return e.kind == 4 ? e.members.size() : e.value;
    }

    int clientAt(int server, int index) {
        return entry(server, index).client;
    }

    int serialAt(int server, int index) {
        return entry(server, index).serial;
    }

    int valueOf(int server, int key) {
        range(key, 8);
        return server(server).table.values[key];
    }

    int appliedSerial(int server, int client) {
        range(client, 4);
        return server(server).table.serials[client];
    }

    int nextOf(int leader, int server) {
        range(leader, 7);
        range(server, 7);
        argument(leader == server);
        state(servers.get(leader).role != 3);
        return servers.get(leader).next.get(server);
    }

    int matchedOf(int leader, int server) {
        range(leader, 7);
        range(server, 7);
        argument(leader == server);
        state(servers.get(leader).role != 3);
        return servers.get(leader).matched.get(server);
    }

    int leader() {
        int best = -1;
        for (Server s : servers) {
            if (s.role == 3 && (best < 0 || s.term > servers.get(best).term)) {
                best = s.number;
            }
        }
        return best;
    }

    int leaders() {
        return (int) servers.stream().filter(s -> s.role == 3).count();
    }

    int committed() {
        return servers.stream().mapToInt(s -> s.committed).max().orElse(0);
    }

    int agreeUpTo(int one, int other) {
        Server a = server(one);
        Server b = server(other);
        int smaller = Math.min(a.last(), b.last());
        int agreed = Math.max(a.snap.index, b.snap.index);
        while (agreed < smaller && a.log.get(agreed + 1).term == b.log.get(agreed + 1).term) {
            agreed++;
        }
        return Math.min(agreed, smaller);
    }

    int copiesOf(int server, int index) {
        Entry e = entry(server, index);
        int n = 0;
        for (int k : servers.get(server).sees()) {
            Server o = servers.get(k);
            if (o.snap.index >= index || o.log.containsKey(index) && o.log.get(index).term == e.term) {
                n++;
            }
        }
        return n;
    }

    boolean couldWin(int server) {
        Server s = server(server);
        HashSet<Integer> behind = new HashSet<>();
        for (int k : s.sees()) {
            if (servers.get(k).asGood(s.lastTerm(), s.last())) {
                behind.add(k);
            }
        }
        return s.most(behind);
    }

    int valuesOf(int key) {
        range(key, 8);
        return (int) servers.stream().filter(s -> s.up).mapToInt(s -> s.table.values[key]).distinct().count();
    }

    private boolean followedByAll() {
        for (Server l : servers) {
            if (l.role != 3) {
                continue;
            }
            boolean all = true;
            for (int k : l.sees()) {
                Server s = servers.get(k);
                all &= k == l.number || !s.up || s.follows == l.number;
            }
            if (all) {
                return true;
            }
        }
        return false;
    }

    private boolean allAgree() {
        if (leader() < 0) {
            return false;
        }
        Server l = servers.get(leader());
        for (Server s : servers) {
            if ((s == l || s.up && l.sees().contains(s.number)) && s.committed < l.last()) {
                return false;
            }
        }
        return true;
    }

    int roundsToLeader() {
        Model m = copy();
        for (int i = 0; i <= 30; i++) {
            if (m.followedByAll()) {
                return i;
            }
            m.oneRound();
        }
        return -1;
    }

    int roundsToAnswer(int client) {
        range(client, 4);
        Model m = copy();
        for (int i = 0; i <= 30; i++) {
            if (m.requests[client] == null || m.requests[client].answered) {
                return i;
            }
            m.oneRound();
        }
        return -1;
    }

    int roundsToAgree() {
        Model m = copy();
        for (int i = 0; i <= 30; i++) {
            if (m.allAgree()) {
                return i;
            }
            m.oneRound();
        }
        return -1;
    }

    int roleIfSounding(int server) {
        range(server, 7);
        Model m = copy();
        try {
            m.sound(server);
        } catch (IllegalStateException e) {
            return -1;
        }
        m.pass(3);
        return m.roleOf(server);
    }

    int roundsWithout(int server) {
        range(server, 7);
        Model m = copy();
        m.fail(server);
        for (int i = 0; i <= 30; i++) {
            if (m.leaders() > 0) {
                return i;
            }
            m.oneRound();
        }
        return -1;
    }

    double meanCommitted() {
        return servers.stream().filter(s -> s.up).mapToInt(s -> s.committed).average().orElse(0);
    }

    private long d;

    private void mix(long v) {
        d = d * 31 + v;
    }

    long digest() {
        d = 2423;
        mix(round());
        mix(lost());
        mix(messages());
        mix(leader());
        mix(leaders());
        mix(committed());
        for (int i = 0; i < messages(); i++) {
            mix(kindOfMessage(i));
            mix(senderOf(i));
            mix(receiverOf(i));
            mix(termOfMessage(i));
            mix(tells(i));
        }
        for (int c = 0; c < 4; c++) {
            mix(serialOf(c));
            mix(isAnswered(c) ? 1 : 0);
            if (isAnswered(c)) {
                mix(answerTo(c));
            }
        }
        for (int s = 0; s < 7; s++) {
            mixServer(s);
        }
        return d;
    }

    private void mixServer(int s) {
        mix(isUp(s) ? 1 : 0);
        mix(roleOf(s));
        mix(termOf(s));
        mix(votedFor(s));
        mix(follows(s));
        mix(waitedOf(s));
        mix(snapshotOf(s));
        mix(lastOf(s));
        mix(lastTermOf(s));
        mix(committedOf(s));
        mix(membersOf(s));
        mix(couldWin(s) ? 1 : 0);
        for (int index : servers.get(s).log.keySet()) {
            mix(termAt(s, index));
            mix(kindAt(s, index));
            mix(valueAt(s, index));
            mix(clientAt(s, index));
            mix(serialAt(s, index));
            mix(copiesOf(s, index));
        }
        for (int key = 0; key < 8; key++) {
            mix(valueOf(s, key));
        }
        for (int c = 0; c < 4; c++) {
            mix(appliedSerial(s, c));
        }
        for (int o = 0; o < 7; o++) {
            if (roleOf(s) == 3 && o != s) {
                mix(nextOf(s, o));
                mix(matchedOf(s, o));
            }
        }
        for (int o = 0; o < 7; o++) {
            mix(agreeUpTo(s, o));
        }
    }
}
