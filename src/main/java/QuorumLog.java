import java.util.Arrays;

/** A log that several servers keep alike, over a network that is not to be relied on. */
public final class QuorumLog {

    private static final int SERVERS = 7;
    private static final int CLIENTS = 4;
    private static final int KEYS = 8;
    private static final int NOBODY = -1;
    private static final int NEVER = -1;
    private static final int REFUSED = -1;
    private static final int NOT_IN_LOG = -1;
    private static final int FIRST_MEMBERS = 3;
    private static final int MOST_MESSAGES = 60;
    private static final int MOST_SENT = 4;
    private static final int FULL_TO_RISE = 48;
    private static final int FULL_TO_APPEND = 40;
    private static final int PATIENT_WITH_LEADER = 4;
    private static final int MOST_ROUNDS = 30;
    private static final int GREATEST_VALUE = 9999;
    private static final int FIRST_ROOM = 64;
    private static final int LAST_ROOM = 1 << 20;

    private static final int FOLLOWER = 0;
    private static final int SOUNDER = 1;
    private static final int CANDIDATE = 2;
    private static final int LEADER = 3;

    private static final int EMPTY = 0;
    private static final int PUT = 1;
    private static final int ADD = 2;
    private static final int SWAP = 3;
    private static final int MEMBERS = 4;

    private static final int SOUND = 1;
    private static final int SOUND_REPLY = 2;
    private static final int CALL = 3;
    private static final int CALL_REPLY = 4;
    private static final int ENTRIES = 5;
    private static final int ANSWER = 6;
    private static final int SNAPSHOT = 7;
    private static final int HURRY = 8;

    private static final int STAYS = 0;
    private static final int SOUNDS = 1;
    private static final int STANDS = 2;
    private static final int LEADS = 3;

    private static final int FOLLOWED = 0;
    private static final int ANSWERED = 1;
    private static final int AGREED = 2;
    private static final int LED = 3;

    private final Cluster now;
    // Made once, so that a question about what would be makes no objects of its own.
    private final Cluster guess;

    public QuorumLog() {
        now = new Cluster();
        guess = new Cluster();
    }

    // ---- servers and links

    public int found(int members) throws IllegalArgumentException {
        if (members < 1 || members > SERVERS) {
            throw new IllegalArgumentException("members is not 1 to 7");
        }
        now.begin(members);
        return members / 2 + 1;
    }

    public int fail(int server) throws IndexOutOfBoundsException, IllegalStateException {
        Server s = serverNumbered(server);
        refuseIf(!s.up);
        s.goDown();
        return now.countUp();
    }

    public int recover(int server) throws IndexOutOfBoundsException, IllegalStateException {
        Server s = serverNumbered(server);
        refuseIf(s.up);
        s.up = true;
        return now.countUp();
    }

    public int cut(int one, int other)
            throws IndexOutOfBoundsException, IllegalArgumentException, IllegalStateException {
        checkPair(one, other);
        refuseIf(now.network.isCut(one, other));
        return now.network.turn(one, other);
    }

    public int mend(int one, int other)
            throws IndexOutOfBoundsException, IllegalArgumentException, IllegalStateException {
        checkPair(one, other);
        refuseIf(!now.network.isCut(one, other));
        return now.network.turn(one, other);
    }

    public int pass(int rounds) throws IllegalArgumentException {
        if (rounds < 1 || rounds > MOST_ROUNDS) {
            throw new IllegalArgumentException("rounds is not 1 to 30");
        }
        int before = now.network.losses;
        for (int i = 0; i < rounds; i++) {
            now.playRound();
        }
        return now.network.losses - before;
    }

    public int sound(int server) throws IndexOutOfBoundsException, IllegalStateException {
        Server s = serverNumbered(server);
        refuseIf(!s.maySound());
        now.rise(s, SOUNDS);
        return s.role;
    }

    public int beat(int server) throws IndexOutOfBoundsException, IllegalStateException {
        Server s = serverNumbered(server);
        refuseIf(s.role != LEADER);
        return now.sendToOthers(s);
    }

    public int shorten(int server) throws IndexOutOfBoundsException, IllegalStateException {
        Server s = serverNumbered(server);
        refuseIf(!s.up || s.committed <= s.snapshot.index);
        return s.makeSnapshot();
    }

    public int handOver(int leader, int server)
            throws IndexOutOfBoundsException, IllegalArgumentException, IllegalStateException {
        checkPair(leader, server);
        Server s = now.servers[leader];
        refuseIf(s.role != LEADER || !s.seesMember(server) || s.matched[server] < s.lastIndex());
        now.network.place(HURRY, leader, server, s.term);
        return now.network.count;
    }

    public int join(int leader, int server) throws IndexOutOfBoundsException, IllegalStateException {
        Server s = serverNumbered(leader);
        checkServer(server);
        refuseIf(!s.mayChangeMembers() || s.seesMember(server));
        s.append(new Entry(s.term, MEMBERS, null, s.members | (1 << server)));
        int index = s.lastIndex();
        s.next[server] = index;
        s.matched[server] = 0;
        now.lookCommitted(s);
        return index;
    }

    public int leave(int leader, int server) throws IndexOutOfBoundsException, IllegalStateException {
        Server s = serverNumbered(leader);
        checkServer(server);
        int rest = s.members & ~(1 << server);
        refuseIf(!s.mayChangeMembers() || !s.seesMember(server) || rest == 0);
        s.append(new Entry(s.term, MEMBERS, null, rest));
        int index = s.lastIndex();
        now.lookCommitted(s);
        return index;
    }

    // ---- messages

    public int messages() {
        return now.network.count;
    }

    public boolean deliver(int message) throws IndexOutOfBoundsException {
        checkMessage(message);
        return now.handle(message);
    }

    public int lose(int message) throws IndexOutOfBoundsException {
        checkMessage(message);
        now.network.takeOut(message);
        now.network.losses++;
        return now.network.count;
    }

    public int twice(int message) throws IndexOutOfBoundsException, IllegalStateException {
        checkMessage(message);
        refuseIf(now.network.count >= MOST_MESSAGES);
        return now.network.repeat(message);
    }

    public int kindOfMessage(int message) throws IndexOutOfBoundsException {
        return messageAt(message).kind;
    }

    public int senderOf(int message) throws IndexOutOfBoundsException {
        return messageAt(message).sender;
    }

    public int receiverOf(int message) throws IndexOutOfBoundsException {
        return messageAt(message).receiver;
    }

    public int termOfMessage(int message) throws IndexOutOfBoundsException {
        return messageAt(message).term;
    }

    public int tells(int message) throws IndexOutOfBoundsException {
        return messageAt(message).told();
    }

    // ---- clients

    public int askPut(int client, int key, int value)
            throws IndexOutOfBoundsException, IllegalArgumentException, IllegalStateException {
        checkRequest(client, key, 0, value);
        return now.clients[client].ask(client, PUT, key, 0, value);
    }

    public int askAdd(int client, int key, int value)
            throws IndexOutOfBoundsException, IllegalArgumentException, IllegalStateException {
        checkRequest(client, key, 0, value);
        return now.clients[client].ask(client, ADD, key, 0, value);
    }

    public int askSwap(int client, int key, int expected, int value)
            throws IndexOutOfBoundsException, IllegalArgumentException, IllegalStateException {
        checkRequest(client, key, expected, value);
        return now.clients[client].ask(client, SWAP, key, expected, value);
    }

    public int hand(int client, int server) throws IndexOutOfBoundsException, IllegalStateException {
        checkClient(client);
        Server s = serverNumbered(server);
        Request asked = now.clients[client].request;
        if (asked == null || now.clients[client].answered) {
            throw new IllegalStateException("the client waits for no answer");
        }
        refuseIf(s.role != LEADER || s.count >= FULL_TO_APPEND);
        s.append(new Entry(s.term, asked.kind, asked, 0));
        int index = s.lastIndex();
        now.lookCommitted(s);
        return index;
    }

    public int serialOf(int client) throws IndexOutOfBoundsException {
        checkClient(client);
        return now.clients[client].serial();
    }

    public boolean isAnswered(int client) throws IndexOutOfBoundsException {
        checkClient(client);
        return now.clients[client].answered;
    }

    public int answerTo(int client) throws IndexOutOfBoundsException, IllegalStateException {
        checkClient(client);
        refuseIf(!now.clients[client].answered);
        return now.clients[client].answer;
    }

    // ---- what a server has

    public int round() {
        return now.rounds;
    }

    public int lost() {
        return now.network.losses;
    }

    public boolean isUp(int server) throws IndexOutOfBoundsException {
        return serverNumbered(server).up;
    }

    public int roleOf(int server) throws IndexOutOfBoundsException {
        return serverNumbered(server).role;
    }

    public int termOf(int server) throws IndexOutOfBoundsException {
        return serverNumbered(server).term;
    }

    public int votedFor(int server) throws IndexOutOfBoundsException {
        return serverNumbered(server).vote;
    }

    public int follows(int server) throws IndexOutOfBoundsException {
        return serverNumbered(server).followed;
    }

    public int waitedOf(int server) throws IndexOutOfBoundsException {
        return serverNumbered(server).waited;
    }

    public int patienceOf(int server) throws IndexOutOfBoundsException {
        return serverNumbered(server).patience();
    }

    public int snapshotOf(int server) throws IndexOutOfBoundsException {
        return serverNumbered(server).snapshot.index;
    }

    public int lastOf(int server) throws IndexOutOfBoundsException {
        return serverNumbered(server).lastIndex();
    }

    public int lastTermOf(int server) throws IndexOutOfBoundsException {
        return serverNumbered(server).lastTerm();
    }

    public int committedOf(int server) throws IndexOutOfBoundsException {
        return serverNumbered(server).committed;
    }

    public int membersOf(int server) throws IndexOutOfBoundsException {
        return Integer.bitCount(serverNumbered(server).members);
    }

    public boolean sees(int server, int other) throws IndexOutOfBoundsException {
        checkServer(other);
        return serverNumbered(server).seesMember(other);
    }

    public int termAt(int server, int index) throws IndexOutOfBoundsException {
        int term = serverNumbered(server).termOfIndex(index);
        if (term < 0) {
            throw new IndexOutOfBoundsException("neither log nor snapshot has this index");
        }
        return term;
    }

    public int kindAt(int server, int index) throws IndexOutOfBoundsException {
        return entryOf(server, index).kind;
    }

    public int valueAt(int server, int index) throws IndexOutOfBoundsException {
        return entryOf(server, index).value();
    }

    public int clientAt(int server, int index) throws IndexOutOfBoundsException {
        return entryOf(server, index).client();
    }

    public int serialAt(int server, int index) throws IndexOutOfBoundsException {
        return entryOf(server, index).serial();
    }

    public int valueOf(int server, int key) throws IndexOutOfBoundsException {
        checkKey(key);
        return serverNumbered(server).table.values[key];
    }

    public int appliedSerial(int server, int client) throws IndexOutOfBoundsException {
        checkClient(client);
        return serverNumbered(server).table.serials[client];
    }

    public int nextOf(int leader, int server)
            throws IndexOutOfBoundsException, IllegalArgumentException, IllegalStateException {
        checkPair(leader, server);
        refuseIf(now.servers[leader].role != LEADER);
        return now.servers[leader].next[server];
    }

    public int matchedOf(int leader, int server)
            throws IndexOutOfBoundsException, IllegalArgumentException, IllegalStateException {
        checkPair(leader, server);
        refuseIf(now.servers[leader].role != LEADER);
        return now.servers[leader].matched[server];
    }

    // ---- all together

    public int leader() {
        Server first = now.newestLeader();
        return first == null ? NOBODY : first.number;
    }

    public int leaders() {
        return now.countLeaders();
    }

    public int committed() {
        int furthest = 0;
        for (Server s : now.servers) {
            furthest = Math.max(furthest, s.committed);
        }
        return furthest;
    }

    public int agreeUpTo(int one, int other) throws IndexOutOfBoundsException {
        checkServer(other);
        return serverNumbered(one).agreement(now.servers[other]);
    }

    public int copiesOf(int server, int index) throws IndexOutOfBoundsException {
        Entry entry = entryOf(server, index);
        return now.countCopies(now.servers[server], index, entry.term);
    }

    public boolean couldWin(int server) throws IndexOutOfBoundsException {
        return now.isElectable(serverNumbered(server));
    }

    public int valuesOf(int key) throws IndexOutOfBoundsException {
        checkKey(key);
        return now.countValues(key);
    }

    // ---- what would be (nothing is changed)

    public int roundsToLeader() {
        guess.copyFrom(now);
        return roundsUntil(FOLLOWED, 0);
    }

    public int roundsToAnswer(int client) throws IndexOutOfBoundsException {
        checkClient(client);
        guess.copyFrom(now);
        return roundsUntil(ANSWERED, client);
    }

    public int roundsToAgree() {
        guess.copyFrom(now);
        return roundsUntil(AGREED, 0);
    }

    public int roleIfSounding(int server) throws IndexOutOfBoundsException {
        if (!serverNumbered(server).maySound()) {
            return REFUSED;
        }
        guess.copyFrom(now);
        Server s = guess.servers[server];
        guess.rise(s, SOUNDS);
        for (int i = 0; i < 3; i++) {
            guess.playRound();
        }
        return s.role;
    }

    public int roundsWithout(int server) throws IndexOutOfBoundsException, IllegalStateException {
        refuseIf(!serverNumbered(server).up);
        guess.copyFrom(now);
        guess.servers[server].goDown();
        return roundsUntil(LED, 0);
    }

    public double meanCommitted() {
        double sum = 0;
        int up = 0;
        for (Server s : now.servers) {
            if (s.up) {
                sum += s.committed;
                up++;
            }
        }
        return up == 0 ? 0 : sum / up;
    }

    public long digest() {
        long d = 2423;
        d = d * 31 + round();
        d = d * 31 + lost();
        d = d * 31 + messages();
        d = d * 31 + leader();
        d = d * 31 + leaders();
        d = d * 31 + committed();
        d = digestMessages(d);
        d = digestClients(d);
        for (Server s : now.servers) {
            d = digestServer(d, s);
            d = digestLog(d, s);
            d = digestTable(d, s.table);
            d = digestOthers(d, s);
        }
        return d;
    }

    private long digestMessages(long before) {
        long d = before;
        for (int i = 0; i < now.network.count; i++) {
            Message m = now.network.row[i];
            d = d * 31 + m.kind;
            d = d * 31 + m.sender;
            d = d * 31 + m.receiver;
            d = d * 31 + m.term;
            d = d * 31 + m.told();
        }
        return d;
    }

    private long digestClients(long before) {
        long d = before;
        for (Client c : now.clients) {
            d = d * 31 + c.serial();
            d = d * 31 + (c.answered ? 1 : 0);
            if (c.answered) {
                d = d * 31 + c.answer;
            }
        }
        return d;
    }

    private long digestServer(long before, Server s) {
        long d = before;
        d = d * 31 + (s.up ? 1 : 0);
        d = d * 31 + s.role;
        d = d * 31 + s.term;
        d = d * 31 + s.vote;
        d = d * 31 + s.followed;
        d = d * 31 + s.waited;
        d = d * 31 + s.snapshot.index;
        d = d * 31 + s.lastIndex();
        d = d * 31 + s.lastTerm();
        d = d * 31 + s.committed;
        d = d * 31 + Integer.bitCount(s.members);
        d = d * 31 + (now.isElectable(s) ? 1 : 0);
        return d;
    }

    private long digestLog(long before, Server s) {
        long d = before;
        for (int i = 0; i < s.count && i < s.log.length; i++) {
            Entry e = s.log[i];
            d = d * 31 + e.term;
            d = d * 31 + e.kind;
            d = d * 31 + e.value();
            d = d * 31 + e.client();
            d = d * 31 + e.serial();
            d = d * 31 + now.countCopies(s, s.snapshot.index + 1 + i, e.term);
        }
        return d;
    }

    private static long digestTable(long before, Table table) {
        long d = before;
        for (int value : table.values) {
            d = d * 31 + value;
        }
        for (int serial : table.serials) {
            d = d * 31 + serial;
        }
        return d;
    }

    private long digestOthers(long before, Server s) {
        long d = before;
        for (int other = 0; other < SERVERS; other++) {
            if (s.role == LEADER && other != s.number) {
                d = d * 31 + s.next[other];
                d = d * 31 + s.matched[other];
            }
        }
        for (Server other : now.servers) {
            d = d * 31 + s.agreement(other);
        }
        return d;
    }

    private int roundsUntil(int goal, int client) {
        for (int rounds = 0; rounds <= MOST_ROUNDS; rounds++) {
            if (rounds > 0) {
                guess.playRound();
            }
            if (guess.hasReached(goal, client)) {
                return rounds;
            }
        }
        return NEVER;
    }

    private static void refuseIf(boolean refused) throws IllegalStateException {
        if (refused) {
            throw new IllegalStateException("not in this state");
        }
    }

    private static void checkServer(int server) throws IndexOutOfBoundsException {
        if (server < 0 || server >= SERVERS) {
            throw new IndexOutOfBoundsException("no such server");
        }
    }

    private static void checkPair(int one, int other)
            throws IndexOutOfBoundsException, IllegalArgumentException {
        checkServer(one);
        checkServer(other);
        if (one == other) {
            throw new IllegalArgumentException("both are the same");
        }
    }

    private static void checkClient(int client) throws IndexOutOfBoundsException {
        if (client < 0 || client >= CLIENTS) {
            throw new IndexOutOfBoundsException("no such client");
        }
    }

    private static void checkKey(int key) throws IndexOutOfBoundsException {
        if (key < 0 || key >= KEYS) {
            throw new IndexOutOfBoundsException("no such key");
        }
    }

    private void checkMessage(int message) throws IndexOutOfBoundsException {
        if (message < 0 || message >= now.network.count) {
            throw new IndexOutOfBoundsException("no such message");
        }
    }

    private void checkRequest(int client, int key, int expected, int value)
            throws IndexOutOfBoundsException, IllegalArgumentException, IllegalStateException {
        checkClient(client);
        checkKey(key);
        if (isTooGreat(expected) || isTooGreat(value)) {
            throw new IllegalArgumentException("a value is not -9999 to 9999");
        }
        refuseIf(now.clients[client].waits());
    }

    private static boolean isTooGreat(int value) {
        return value < -GREATEST_VALUE || value > GREATEST_VALUE;
    }

    private Server serverNumbered(int server) throws IndexOutOfBoundsException {
        checkServer(server);
        return now.servers[server];
    }

    private Message messageAt(int message) throws IndexOutOfBoundsException {
        checkMessage(message);
        return now.network.row[message];
    }

    private Entry entryOf(int server, int index) throws IndexOutOfBoundsException {
        Entry entry = serverNumbered(server).entryAt(index);
        if (entry == null) {
            throw new IndexOutOfBoundsException("the log has no such entry");
        }
        return entry;
    }

    /** What a client asks for; never changed, so that logs and messages can share it. */
    private static final class Request {
        final int client;
        final int serial;
        final int kind;
        final int key;
        final int expected;
        final int value;

        Request(int client, int serial, int kind, int key, int expected, int value) {
            this.client = client;
            this.serial = serial;
            this.kind = kind;
            this.key = key;
            this.expected = expected;
            this.value = value;
        }
    }

    /** An entry of a log; never changed, so that logs and messages can share it. */
    private static final class Entry {
        final int term;
        final int kind;
        final Request request;
        final int members;

        Entry(int term, int kind, Request request, int members) {
            this.term = term;
            this.kind = kind;
            this.request = request;
            this.members = members;
        }

        int value() {
            if (request != null) {
                return request.value;
            }
            return kind == MEMBERS ? Integer.bitCount(members) : 0;
        }

        int client() {
            return request == null ? NOBODY : request.client;
        }

        int serial() {
            return request == null ? 0 : request.serial;
        }
    }

    /** The values by keys, and by clients the latest serial and what that gave. */
    private static final class Table {
        final int[] values = new int[KEYS];
        final int[] serials = new int[CLIENTS];
        final int[] given = new int[CLIENTS];

        void copyFrom(Table other) {
            System.arraycopy(other.values, 0, values, 0, KEYS);
            System.arraycopy(other.serials, 0, serials, 0, CLIENTS);
            System.arraycopy(other.given, 0, given, 0, CLIENTS);
        }

        void apply(Request r) {
            if (r.serial <= serials[r.client]) {
                return;
            }
            serials[r.client] = r.serial;
            int before = values[r.key];
            if (r.kind == PUT) {
                values[r.key] = r.value;
                given[r.client] = before;
            } else if (r.kind == ADD) {
                values[r.key] = before + r.value;
                given[r.client] = values[r.key];
            } else {
                values[r.key] = before == r.expected ? r.value : before;
                given[r.client] = before == r.expected ? 1 : 0;
            }
        }
    }

    /** What stands for the beginning of a log; never changed, so that servers and messages can share it. */
    private static final class Snapshot {
        final int index;
        final int term;
        final int members;
        final Table table = new Table();

        Snapshot(int index, int term, int members, Table from) {
            this.index = index;
            this.term = term;
            this.members = members;
            if (from != null) {
                table.copyFrom(from);
            }
        }
    }

    private static final class Client {
        Request request;
        boolean answered;
        int answer;

        void forget() {
            request = null;
            answered = false;
            answer = 0;
        }

        void copyFrom(Client other) {
            request = other.request;
            answered = other.answered;
            answer = other.answer;
        }

        int serial() {
            return request == null ? 0 : request.serial;
        }

        boolean waits() {
            return request != null && !answered;
        }

        int ask(int self, int kind, int key, int expected, int value) {
            request = new Request(self, serial() + 1, kind, key, expected, value);
            answered = false;
            return request.serial;
        }
    }

    /** Its fields are read by kind: index is the last, the previous, the answered or the snapshot's one. */
    private static final class Message {
        final Entry[] entries = new Entry[MOST_SENT];
        int kind;
        int sender;
        int receiver;
        int term;
        boolean yes;
        int index;
        int logTerm;
        int committed;
        int count;
        Snapshot snapshot;

        void copyFrom(Message other) {
            kind = other.kind;
            sender = other.sender;
            receiver = other.receiver;
            term = other.term;
            yes = other.yes;
            index = other.index;
            logTerm = other.logTerm;
            committed = other.committed;
            count = other.count;
            snapshot = other.snapshot;
            for (int i = 0; i < MOST_SENT; i++) {
                entries[i] = other.entries[i];
            }
        }

        int told() {
            if (kind == SOUND_REPLY || kind == CALL_REPLY) {
                return yes ? 1 : 0;
            }
            return index + count;
        }

        /** Sounds leave the term alone: who sounds has not got it, and a yes only repeats it. */
        boolean bearsItsTerm() {
            return kind != SOUND && !(kind == SOUND_REPLY && yes);
        }
    }

    /** The messages under way, and the links between the servers. */
    private static final class Network {
        final Message[] row = new Message[MOST_MESSAGES];
        // By servers, a bit for each other one to which the link is cut.
        final int[] cuts = new int[SERVERS];
        // Beside the row, so that what is sent while it is carried out does not write over it.
        Message inHand = new Message();
        int count;
        int cutLinks;
        int losses;

        Network() {
            for (int i = 0; i < MOST_MESSAGES; i++) {
                row[i] = new Message();
            }
        }

        void clear() {
            Arrays.fill(cuts, 0);
            count = 0;
            cutLinks = 0;
            losses = 0;
        }

        void copyFrom(Network other) {
            System.arraycopy(other.cuts, 0, cuts, 0, SERVERS);
            for (int i = 0; i < other.count; i++) {
                row[i].copyFrom(other.row[i]);
            }
            count = other.count;
            cutLinks = other.cutLinks;
            losses = other.losses;
        }

        boolean isCut(int one, int other) {
            return ((cuts[one] >> other) & 1) == 1;
        }

        /** Cuts a link that is whole, or mends one that is cut; answers how many are cut then. */
        int turn(int one, int other) {
            cuts[one] ^= 1 << other;
            cuts[other] ^= 1 << one;
            cutLinks += isCut(one, other) ? 1 : -1;
            return cutLinks;
        }

        /** The new message at the end of the row, or null if it is lost. */
        Message place(int kind, int sender, int receiver, int term) {
            if (count >= MOST_MESSAGES) {
                losses++;
                return null;
            }
            Message m = row[count];
            count++;
            m.kind = kind;
            m.sender = sender;
            m.receiver = receiver;
            m.term = term;
            m.yes = false;
            m.index = 0;
            m.logTerm = 0;
            m.committed = 0;
            m.count = 0;
            m.snapshot = null;
            return m;
        }

        int repeat(int at) {
            if (count < MOST_MESSAGES && at < count) {
                row[count].copyFrom(row[at]);
                count++;
            }
            return count;
        }

        Message takeOut(int at) {
            Message out = row[at];
            for (int i = at + 1; i < count; i++) {
                row[i - 1] = row[i];
            }
            count--;
            row[count] = inHand;
            inHand = out;
            return out;
        }
    }

    private static final class Server {
        final int number;
        final Table table = new Table();
        final int[] next = new int[SERVERS];
        final int[] matched = new int[SERVERS];
        boolean up;
        int term;
        int vote;
        Entry[] log = new Entry[FIRST_ROOM];
        int count;
        Snapshot snapshot;
        // What the server sees as members is kept, since nearly every step asks for it.
        int members;
        int membersIndex;
        int role;
        int followed;
        int waited;
        int committed;
        int yeses;
        int beatSteps;

        Server(int number, Snapshot first) {
            this.number = number;
            reset(first);
        }

        void reset(Snapshot first) {
            up = true;
            term = 0;
            vote = NOBODY;
            count = 0;
            snapshot = first;
            findMembers();
            rest();
        }

        /** What is not kept when it goes down is as if it had just begun from its snapshot. */
        private void rest() {
            role = FOLLOWER;
            followed = NOBODY;
            waited = 0;
            committed = snapshot.index;
            table.copyFrom(snapshot.table);
        }

        void goDown() {
            up = false;
            rest();
        }

        void copyFrom(Server other) {
            table.copyFrom(other.table);
            System.arraycopy(other.next, 0, next, 0, SERVERS);
            System.arraycopy(other.matched, 0, matched, 0, SERVERS);
            up = other.up;
            term = other.term;
            vote = other.vote;
            snapshot = other.snapshot;
            role = other.role;
            followed = other.followed;
            waited = other.waited;
            committed = other.committed;
            yeses = other.yeses;
            beatSteps = other.beatSteps;
            count = 0;
            for (int i = 0; i < other.count; i++) {
                append(other.log[i]);
            }
            members = other.members;
            membersIndex = other.membersIndex;
        }

        int patience() {
            return 6 + (3 * number + 5 * term) % 7;
        }

        int lastIndex() {
            return snapshot.index + count;
        }

        int lastTerm() {
            return count > 0 && count <= log.length ? log[count - 1].term : snapshot.term;
        }

        Entry entryAt(int index) {
            if (index <= snapshot.index || index > snapshot.index + count) {
                return null;
            }
            return log[index - snapshot.index - 1];
        }

        /** The term of the entry with this index, or of the snapshot; -1 without both. */
        int termOfIndex(int index) {
            if (index < snapshot.index || index > snapshot.index + count) {
                return -1;
            }
            return index == snapshot.index ? snapshot.term : log[index - snapshot.index - 1].term;
        }

        boolean seesMember(int other) {
            return ((members >> other) & 1) == 1;
        }

        boolean isMember() {
            return ((members >> number) & 1) == 1;
        }

        boolean hasMostYeses() {
            return 2 * Integer.bitCount(yeses & members) > Integer.bitCount(members);
        }

        boolean mostHave(int index) {
            int all = 0;
            int having = 0;
            for (int other = 0; other < SERVERS; other++) {
                if (((members >> other) & 1) == 1) {
                    all++;
                    having += other == number || matched[other] >= index ? 1 : 0;
                }
            }
            return 2 * having > all;
        }

        boolean maySound() {
            return up && role != LEADER && isMember();
        }

        boolean mayChangeMembers() {
            return role == LEADER && termOfIndex(committed) == term
                    && membersIndex <= committed && count < FULL_TO_APPEND;
        }

        /** Whether a log with this last term and index is as good as that of this server. */
        boolean isReachedBy(int otherTerm, int otherIndex) {
            int own = lastTerm();
            return otherTerm > own || (otherTerm == own && otherIndex >= lastIndex());
        }

        int agreement(Server other) {
            int least = Math.min(lastIndex(), other.lastIndex());
            int index = Math.max(snapshot.index, other.snapshot.index);
            if (least <= index) {
                return least;
            }
            while (index < least && termOfIndex(index + 1) == other.termOfIndex(index + 1)) {
                index++;
            }
            return index;
        }

        void append(Entry entry) {
            if (count >= log.length) {
                widen();
            }
            if (count < log.length) {
                log[count] = entry;
                count++;
            }
            if (entry.kind == MEMBERS) {
                members = entry.members;
                membersIndex = snapshot.index + count;
            }
        }

        private void widen() {
            if (log.length >= LAST_ROOM) {
                return;
            }
            Entry[] wider = new Entry[log.length * 2];
            for (int i = 0; i < log.length; i++) {
                wider[i] = log[i];
            }
            log = wider;
        }

        private void findMembers() {
            members = snapshot.members;
            membersIndex = NOT_IN_LOG;
            for (int i = count - 1; i >= 0; i--) {
                if (log[i].kind == MEMBERS) {
                    members = log[i].members;
                    membersIndex = snapshot.index + 1 + i;
                    return;
                }
            }
        }

        private int membersBehind(int index) {
            for (int i = index - snapshot.index - 1; i >= 0; i--) {
                if (i < count && log[i].kind == MEMBERS) {
                    return log[i].members;
                }
            }
            return snapshot.members;
        }

        int makeSnapshot() {
            int gone = committed - snapshot.index;
            replaceSnapshot(new Snapshot(committed, termOfIndex(committed), membersBehind(committed), table), gone);
            return gone;
        }

        /** The table of the snapshot becomes that of the server. */
        void install(Snapshot sent) {
            boolean keepsRest = hasEntry(sent.index, sent.term);
            replaceSnapshot(sent, keepsRest ? sent.index - snapshot.index : count);
            committed = sent.index;
            table.copyFrom(sent.table);
        }

        private void replaceSnapshot(Snapshot newer, int gone) {
            for (int i = Math.max(gone, 0); i < count; i++) {
                log[i - gone] = log[i];
            }
            count -= gone;
            snapshot = newer;
            findMembers();
        }

        private boolean hasEntry(int index, int entryTerm) {
            Entry own = entryAt(index);
            return own != null && own.term == entryTerm;
        }

        boolean hasPrevious(int index, int entryTerm) {
            return index <= snapshot.index || hasEntry(index, entryTerm);
        }

        /** Where the leader should go on, if this server has not what is previous. */
        int indexToTryNext(int previous) {
            if (lastIndex() < previous) {
                return lastIndex();
            }
            int refused = termOfIndex(previous);
            int index = previous;
            while (index > snapshot.index && termOfIndex(index) == refused) {
                index--;
            }
            return Math.max(index, committed);
        }

        void accept(int index, Entry entry) {
            if (index <= snapshot.index || hasEntry(index, entry.term)) {
                return;
            }
            if (index <= lastIndex()) {
                count = index - snapshot.index - 1;
                findMembers();
            }
            append(entry);
        }

        void enterTerm(int newTerm) {
            term = newTerm;
            vote = NOBODY;
            role = FOLLOWER;
            followed = NOBODY;
        }

        void obey(int leader) {
            role = FOLLOWER;
            followed = leader;
            waited = 0;
        }

        void startAs(int newRole) {
            role = newRole;
            followed = NOBODY;
            waited = 0;
            yeses = 1 << number;
        }

        void startLeading() {
            role = LEADER;
            followed = NOBODY;
            beatSteps = 0;
            Arrays.fill(next, lastIndex() + 1);
            Arrays.fill(matched, 0);
            append(new Entry(term, EMPTY, null, 0));
        }

        void learnMatched(int other, int index) {
            if (index > matched[other]) {
                matched[other] = index;
                next[other] = index + 1;
            }
        }
    }

    /** All servers, clients and messages, and how a round goes. */
    private static final class Cluster {
        final Server[] servers = new Server[SERVERS];
        final Client[] clients = new Client[CLIENTS];
        final Network network = new Network();
        int rounds;

        Cluster() {
            Snapshot first = firstSnapshot(FIRST_MEMBERS);
            for (int i = 0; i < SERVERS; i++) {
                servers[i] = new Server(i, first);
            }
            for (int i = 0; i < CLIENTS; i++) {
                clients[i] = new Client();
            }
        }

        private static Snapshot firstSnapshot(int members) {
            return new Snapshot(0, 0, (1 << members) - 1, null);
        }

        void begin(int members) {
            Snapshot first = firstSnapshot(members);
            for (Server s : servers) {
                s.reset(first);
            }
            for (Client c : clients) {
                c.forget();
            }
            network.clear();
            rounds = 0;
        }

        void copyFrom(Cluster other) {
            for (int i = 0; i < SERVERS; i++) {
                servers[i].copyFrom(other.servers[i]);
            }
            for (int i = 0; i < CLIENTS; i++) {
                clients[i].copyFrom(other.clients[i]);
            }
            network.copyFrom(other.network);
            rounds = other.rounds;
        }

        int countUp() {
            int up = 0;
            for (Server s : servers) {
                up += s.up ? 1 : 0;
            }
            return up;
        }

        int countLeaders() {
            int leading = 0;
            for (Server s : servers) {
                leading += s.role == LEADER ? 1 : 0;
            }
            return leading;
        }

        Server newestLeader() {
            Server newest = null;
            for (Server s : servers) {
                if (s.role == LEADER && (newest == null || s.term > newest.term)) {
                    newest = s;
                }
            }
            return newest;
        }

        int countCopies(Server s, int index, int term) {
            int copies = 0;
            for (Server other : servers) {
                if (s.seesMember(other.number) && (other.snapshot.index >= index || other.termOfIndex(index) == term)) {
                    copies++;
                }
            }
            return copies;
        }

        boolean isElectable(Server s) {
            int term = s.lastTerm();
            int index = s.lastIndex();
            int all = 0;
            int reached = 0;
            for (Server other : servers) {
                if (s.seesMember(other.number)) {
                    all++;
                    reached += other.isReachedBy(term, index) ? 1 : 0;
                }
            }
            return 2 * reached > all;
        }

        int countValues(int key) {
            int different = 0;
            for (int i = 0; i < SERVERS; i++) {
                different += servers[i].up && isFirstWithValue(i, key) ? 1 : 0;
            }
            return different;
        }

        private boolean isFirstWithValue(int server, int key) {
            for (int i = 0; i < server; i++) {
                if (servers[i].up && servers[i].table.values[key] == servers[server].table.values[key]) {
                    return false;
                }
            }
            return true;
        }

        boolean hasReached(int goal, int client) {
            if (goal == FOLLOWED) {
                return hasFollowedLeader();
            }
            if (goal == ANSWERED) {
                return !clients[client].waits();
            }
            return goal == AGREED ? isAgreed() : countLeaders() > 0;
        }

        private boolean hasFollowedLeader() {
            for (Server s : servers) {
                if (s.role == LEADER && isFollowedByAll(s)) {
                    return true;
                }
            }
            return false;
        }

        private boolean isFollowedByAll(Server leading) {
            for (Server s : servers) {
                if (s != leading && s.up && leading.seesMember(s.number) && s.followed != leading.number) {
                    return false;
                }
            }
            return true;
        }

        private boolean isAgreed() {
            Server leading = newestLeader();
            if (leading == null) {
                return false;
            }
            for (Server s : servers) {
                boolean counts = s == leading || (s.up && leading.seesMember(s.number));
                if (counts && s.committed < leading.lastIndex()) {
                    return false;
                }
            }
            return true;
        }

        void playRound() {
            for (Server s : servers) {
                if (s.up && s.role == LEADER) {
                    s.beatSteps++;
                    if (s.beatSteps % 2 == 0) {
                        sendToOthers(s);
                    }
                } else if (s.up && s.isMember()) {
                    s.waited++;
                    rise(s, s.waited >= s.patience() ? SOUNDS : STAYS);
                }
            }
            int underWay = network.count;
            for (int i = 0; i < underWay; i++) {
                handle(0);
            }
            rounds++;
        }

        /** Takes the steps from sounding to leading one behind the other, as far as they go at once. */
        void rise(Server s, int from) {
            int step = from;
            if (step == SOUNDS) {
                step = sounding(s);
            }
            if (step == STANDS) {
                step = standing(s);
            }
            if (step == LEADS) {
                s.startLeading();
                sendToOthers(s);
                lookCommitted(s);
            }
        }

        private int sounding(Server s) {
            if (s.count >= FULL_TO_RISE) {
                s.waited = 0;
                return STAYS;
            }
            s.startAs(SOUNDER);
            if (s.hasMostYeses()) {
                return STANDS;
            }
            askOthers(s, SOUND, s.term + 1);
            return STAYS;
        }

        private int standing(Server s) {
            s.term++;
            s.startAs(CANDIDATE);
            s.vote = s.number;
            if (s.hasMostYeses()) {
                return LEADS;
            }
            askOthers(s, CALL, s.term);
            return STAYS;
        }

        private void askOthers(Server s, int kind, int term) {
            for (int other = 0; other < SERVERS; other++) {
                if (other == s.number || !s.seesMember(other)) {
                    continue;
                }
                Message m = network.place(kind, s.number, other, term);
                if (m != null) {
                    m.index = s.lastIndex();
                    m.logTerm = s.lastTerm();
                }
            }
        }

        /** Answers to how many it sends. */
        int sendToOthers(Server s) {
            int sent = 0;
            for (int other = 0; other < SERVERS; other++) {
                if (other != s.number && s.seesMember(other)) {
                    sendTo(s, other);
                    sent++;
                }
            }
            return sent;
        }

        private void sendTo(Server s, int other) {
            int next = s.next[other];
            boolean isBehind = next <= s.snapshot.index;
            Message m = network.place(isBehind ? SNAPSHOT : ENTRIES, s.number, other, s.term);
            if (m == null) {
                return;
            }
            if (isBehind) {
                m.index = s.snapshot.index;
                m.snapshot = s.snapshot;
                return;
            }
            m.index = next - 1;
            m.logTerm = s.termOfIndex(next - 1);
            m.committed = s.committed;
            for (int i = next; i <= s.lastIndex() && m.count < MOST_SENT; i++) {
                m.entries[m.count] = s.entryAt(i);
                m.count++;
            }
        }

        void lookCommitted(Server s) {
            for (int index = s.lastIndex(); index > s.committed; index--) {
                if (s.termOfIndex(index) == s.term && s.mostHave(index)) {
                    commit(s, index);
                    break;
                }
            }
            if (!s.isMember() && s.membersIndex != NOT_IN_LOG && s.membersIndex <= s.committed) {
                s.role = FOLLOWER;
                s.followed = NOBODY;
            }
        }

        private void commit(Server s, int upTo) {
            while (s.committed < upTo) {
                s.committed++;
                Entry entry = s.entryAt(s.committed);
                Request r = entry == null ? null : entry.request;
                if (r == null) {
                    continue;
                }
                s.table.apply(r);
                Client asking = clients[r.client];
                if (s.role == LEADER && asking.serial() == r.serial) {
                    asking.answered = true;
                    asking.answer = s.table.given[r.client];
                }
            }
        }

        /** Whether the message arrives; what arrives is carried out. */
        boolean handle(int place) {
            if (place < 0 || place >= network.count) {
                return false;
            }
            Message m = network.takeOut(place);
            Server s = servers[m.receiver];
            if (!s.up || network.isCut(m.sender, m.receiver)) {
                network.losses++;
                return false;
            }
            if (m.term > s.term && m.bearsItsTerm()) {
                s.enterTerm(m.term);
            }
            int step = STAYS;
            switch (m.kind) {
                case SOUND:
                    onSound(s, m);
                    break;
                case SOUND_REPLY:
                    step = onYes(s, m, SOUNDER, s.term + 1) ? STANDS : STAYS;
                    break;
                case CALL:
                    onCall(s, m);
                    break;
                case CALL_REPLY:
                    step = onYes(s, m, CANDIDATE, s.term) ? LEADS : STAYS;
                    break;
                case ENTRIES:
                    onEntries(s, m);
                    break;
                case ANSWER:
                    onAnswer(s, m);
                    break;
                case SNAPSHOT:
                    onSnapshot(s, m);
                    break;
                default:
                    step = isHurried(s, m) ? STANDS : STAYS;
                    break;
            }
            rise(s, step);
            return true;
        }

        private void reply(int kind, Message to, int term, boolean yes, int index) {
            Message m = network.place(kind, to.receiver, to.sender, term);
            if (m != null) {
                m.yes = yes;
                m.index = index;
            }
        }

        private void onSound(Server s, Message m) {
            boolean isFree = s.followed == NOBODY || s.waited >= PATIENT_WITH_LEADER;
            boolean yes = m.term > s.term && s.isReachedBy(m.logTerm, m.index) && s.role != LEADER && isFree;
            reply(SOUND_REPLY, m, yes ? m.term : s.term, yes, 0);
        }

        private void onCall(Server s, Message m) {
            boolean isFree = s.vote == NOBODY || s.vote == m.sender;
            boolean yes = m.term == s.term && isFree && s.isReachedBy(m.logTerm, m.index);
            if (yes) {
                s.vote = m.sender;
                s.waited = 0;
            }
            reply(CALL_REPLY, m, s.term, yes, 0);
        }

        /** Whether the receiver has yeses of most then. */
        private boolean onYes(Server s, Message m, int role, int term) {
            if (!m.yes || s.role != role || m.term != term) {
                return false;
            }
            s.yeses |= 1 << m.sender;
            return s.hasMostYeses();
        }

        private void onEntries(Server s, Message m) {
            if (m.term < s.term) {
                reply(ANSWER, m, s.term, false, 0);
                return;
            }
            s.obey(m.sender);
            if (!s.hasPrevious(m.index, m.logTerm)) {
                reply(ANSWER, m, s.term, false, s.indexToTryNext(m.index));
                return;
            }
            for (int i = 0; i < m.count && i < MOST_SENT; i++) {
                Entry entry = m.entries[i];
                if (entry != null) {
                    s.accept(m.index + 1 + i, entry);
                }
            }
            int last = m.index + m.count;
            commit(s, Math.min(m.committed, last));
            reply(ANSWER, m, s.term, true, last);
        }

        private void onSnapshot(Server s, Message m) {
            if (m.term < s.term) {
                reply(ANSWER, m, s.term, false, 0);
                return;
            }
            s.obey(m.sender);
            Snapshot sent = m.snapshot;
            if (sent != null && sent.index > s.committed) {
                s.install(sent);
            }
            reply(ANSWER, m, s.term, true, m.index);
        }

        private void onAnswer(Server s, Message m) {
            if (s.role != LEADER || m.term != s.term) {
                return;
            }
            if (!m.yes) {
                s.next[m.sender] = Math.max(m.index, s.matched[m.sender]) + 1;
                sendTo(s, m.sender);
                return;
            }
            s.learnMatched(m.sender, m.index);
            lookCommitted(s);
            if (s.role == LEADER && s.next[m.sender] <= s.lastIndex()) {
                sendTo(s, m.sender);
            }
        }

        private boolean isHurried(Server s, Message m) {
            return m.term == s.term && s.role != LEADER && s.isMember() && s.count < FULL_TO_RISE;
        }
    }
}
