import java.util.List;
import java.util.function.Supplier;

/** For each sentence that says when a call is refused: it throws what it must, and changes nothing. */
public final class RefusalsTest extends Checks {
    private static final String NO_SERVER = "Throws `IndexOutOfBoundsException` if there is no such server";
    private static final String NO_SERVER_OR_LEADER = NO_SERVER + " or leader";
    private static final String NONE_OF_BOTH = NO_SERVER + " (one or other)";
    private static final String NO_MESSAGE = "Throws `IndexOutOfBoundsException` if there is no such message";
    private static final String NO_CLIENT = "Throws `IndexOutOfBoundsException` if there is no such client";
    private static final String NO_ENTRY = NO_SERVER + ", or its log has no such entry";
    private static final String SAME = "Throws `IllegalArgumentException` if both are the same";
    private static final String DOWN = "Throws `IllegalStateException` if it is down";
    private static final String NO_VALUE = "Throws `IllegalArgumentException` if value is not -9999 to 9999";
    private static final String NOT_ANSWERED = "Throws `IllegalStateException` if its latest request is not answered";
    private static final String LEADER_IS_NONE = "Throws `IllegalStateException` if the leader is none";
    private static final String FIRST = "If several exceptions apply, the one that is named first is thrown.";

    private static final int[] NO_CLIENTS = {-1, 4, 7, Integer.MAX_VALUE, Integer.MIN_VALUE};
    private static final int[] NO_KEYS = {-1, 8, Integer.MAX_VALUE, Integer.MIN_VALUE};
    private static final int[] NO_VALUES = {10000, -10000, Integer.MAX_VALUE, Integer.MIN_VALUE};
    private static final List<Supplier<QuorumLog>> STATES =
            List.of(QuorumLog::new, RefusalsTest::busy, RefusalsTest::crowded);

    interface OfOne {
        Object of(QuorumLog x, int one);
    }

    interface OfTwo {
        Object of(QuorumLog x, int one, int other);
    }

    interface OfThree {
        Object of(QuorumLog x, int one, int two, int three);
    }

    public static void main(String[] args) throws Exception {
        playAllThatSay(RefusalsTest.class);
    }

    // ---- states to begin with

    /** A leader, one that is down, a link that is cut, messages, and a client that waits. */
    private static QuorumLog busy() {
        QuorumLog x = settled(5);
        x.cut(1, 4);
        put(x, 1, 0, 2, 7);
        x.pass(4);
        x.shorten(0);
        x.fail(3);
        put(x, 0, 0, 1, 5);
        x.askSwap(2, 1, 5, 6);
        x.beat(0);
        x.sound(2);
        return x;
    }

    /** 60 messages are under way. */
    private static QuorumLog crowded() {
        QuorumLog x = settled(3);
        put(x, 0, 0, 2, 7);
        for (int i = 0; i < 30; i++) {
            x.beat(0);
        }
        is("under way", x.messages(), 60);
        return x;
    }

    /** Server 0 leads in term 1, and has committed index 1. */
    private static QuorumLog led() {
        return settled(3);
    }

    /** Server 0 leads alone, and its log has so many entries, all committed. */
    private static QuorumLog filled(int entries) {
        QuorumLog x = alone();
        fill(x, Math.min(entries, 40));
        while (x.lastOf(0) < entries) {
            x.fail(0);
            x.recover(0);
            x.sound(0);
        }
        return x;
    }

    /** As filled, but with two members. */
    private static QuorumLog filledForTwo(int entries) {
        QuorumLog x = alone();
        x.join(0, 1);
        x.pass(6);
        x.shorten(0);
        while (x.lastOf(0) - x.snapshotOf(0) < entries) {
            for (int c = 0; c < 4 && x.lastOf(0) - x.snapshotOf(0) < entries; c++) {
                put(x, c, 0, c, 1);
            }
            x.pass(4);
        }
        return x;
    }

    /** Server 0 leads in term 1, but has committed nothing yet. */
    private static QuorumLog early() {
        QuorumLog x = founded(3);
        x.pass(9);
        return x;
    }

    /** Server 1 leads in term 2, and has committed index 1 of term 1, but not yet its own index 2. */
    private static QuorumLog early2() {
        QuorumLog x = settled(3);
        x.handOver(0, 1);
        x.deliver(0);
        x.deliver(0);
        x.deliver(1);
        is("leads, with index 1 committed", x.roleOf(1) + x.committedOf(1), 4);
        return x;
    }

    /** An entry of members with index 2 is not committed yet. */
    private static QuorumLog joining() {
        QuorumLog x = led();
        x.join(0, 3);
        return x;
    }

    /** The snapshot of server 0 goes up to 2, 3 is committed, 4, an entry of members, is not. */
    private static QuorumLog joiningBehind() {
        QuorumLog x = led();
        put(x, 0, 0, 0, 2);
        x.pass(6);
        put(x, 1, 0, 0, 3);
        x.beat(0);
        x.join(0, 5);
        x.shorten(0);
        for (int s = 1; s <= 2; s++) {
            arrives(x, 5, 0, s);
            arrives(x, 6, s, 0);
        }
        is("snapshot, committed, last", x.snapshotOf(0) + " " + x.committedOf(0) + " " + x.lastOf(0), "2 3 4");
        return x;
    }

    private static QuorumLog joined() {
        QuorumLog x = joiningBehind();
        x.pass(6);
        is("snapshot, committed", x.snapshotOf(0) + " " + x.committedOf(0), "2 4");
        return x;
    }

    // ---- how they are refused

    private static Object outcomeOf(Supplier<QuorumLog> state, Use use) {
        QuorumLog x = state.get();
        return outcome(() -> use.on(x));
    }

    private static void refusesInAnyState(String what, Class<?> due, Use use) {
        for (Supplier<QuorumLog> state : STATES) {
            refuses(what, state, due, use);
        }
    }

    private static void hasNoIndex(String what, Use use) {
        refusesInAnyState(what, INDEX, use);
    }

    private static void hasIndex(String what, Use use) {
        is(what + " is one", outcomeOf(QuorumLog::new, use) != INDEX, true);
    }

    private static void needsServer(OfOne use) {
        for (int none : NO_SERVERS) {
            hasNoIndex("server " + none, x -> use.of(x, none));
        }
        for (int s = 0; s < 7; s++) {
            int server = s;
            hasIndex("server " + server, x -> use.of(x, server));
        }
    }

    private static void needsServers(OfTwo use) {
        needsServer((x, one) -> use.of(x, one, one == 2 ? 3 : 2));
        needsServer((x, other) -> use.of(x, other == 0 ? 1 : 0, other));
    }

    private static void needsMessage(OfOne use) {
        for (int none : new int[] {-1, 60, 61, Integer.MAX_VALUE, Integer.MIN_VALUE}) {
            hasNoIndex("message " + none, x -> use.of(x, none));
        }
        hasNoIndex("the message behind the last one", x -> use.of(x, x.messages()));
        refuses("the first one of none", QuorumLog::new, INDEX, x -> use.of(x, 0));
        is("the first one is one", outcomeOf(RefusalsTest::busy, x -> use.of(x, 0)) != INDEX, true);
        is("the last one is one", outcomeOf(RefusalsTest::busy, x -> use.of(x, x.messages() - 1)) != INDEX, true);
        is("the 60th is one", outcomeOf(RefusalsTest::crowded, x -> use.of(x, 59)) != INDEX, true);
    }

    private static void needsClient(OfOne use) {
        for (int none : NO_CLIENTS) {
            hasNoIndex("client " + none, x -> use.of(x, none));
        }
        for (int c = 0; c < 4; c++) {
            int client = c;
            hasIndex("client " + client, x -> use.of(x, client));
        }
    }

    private static void needsKey(OfOne use) {
        for (int none : NO_KEYS) {
            hasNoIndex("key " + none, x -> use.of(x, none));
        }
        for (int k = 0; k < 8; k++) {
            int key = k;
            hasIndex("key " + key, x -> use.of(x, key));
        }
    }

    /** Server 0 has the entries 3 to 4 behind its snapshot. */
    private static QuorumLog shortened() {
        QuorumLog x = led();
        put(x, 0, 0, 0, 1);
        x.pass(6);
        x.shorten(0);
        put(x, 0, 0, 0, 2);
        put(x, 1, 0, 0, 3);
        return x;
    }

    private static void needsEntry(OfTwo use) {
        for (int none : NO_SERVERS) {
            hasNoIndex("server " + none, x -> use.of(x, none, 1));
        }
        for (int s = 0; s < 7; s++) {
            int server = s;
            is("server " + server, outcomeOf(() -> settled(7), x -> use.of(x, server, 1)) != INDEX, true);
        }
        for (int none : new int[] {-1, 0, 1, 2, 5, 60, Integer.MAX_VALUE, Integer.MIN_VALUE}) {
            refuses("index " + none, RefusalsTest::shortened, INDEX, x -> use.of(x, 0, none));
        }
        refuses("index 0 of an empty log", QuorumLog::new, INDEX, x -> use.of(x, 0, 0));
        refuses("index 1 of an empty log", QuorumLog::new, INDEX, x -> use.of(x, 0, 1));
        is("the first one is one", outcomeOf(RefusalsTest::shortened, x -> use.of(x, 0, 3)) != INDEX, true);
        is("the last one is one", outcomeOf(RefusalsTest::shortened, x -> use.of(x, 0, 4)) != INDEX, true);
    }

    private static void needsTwoServers(OfTwo use) {
        for (int s = 0; s < 7; s++) {
            int server = s;
            refusesInAnyState("both " + server, ARGUMENT, x -> use.of(x, server, server));
        }
        is("0 and 6 are two", outcomeOf(QuorumLog::new, x -> use.of(x, 0, 6)) != ARGUMENT, true);
    }

    private static void needsLeader(OfTwo use) {
        refuses("a follower", RefusalsTest::led, STATE, x -> use.of(x, 1, 0));
        refuses("no member", RefusalsTest::led, STATE, x -> use.of(x, 5, 0));
        refuses("a sounder", RefusalsTest::sounding, STATE, x -> use.of(x, 1, 0));
        refuses("a candidate", RefusalsTest::standing, STATE, x -> use.of(x, 1, 0));
        refuses("one that led and is down", RefusalsTest::fallen, STATE, x -> use.of(x, 0, 1));
        refuses("one that led and is up again", RefusalsTest::risen, STATE, x -> use.of(x, 0, 1));
    }

    private static QuorumLog sounding() {
        QuorumLog x = led();
        x.sound(1);
        return x;
    }

    private static QuorumLog standing() {
        QuorumLog x = led();
        x.handOver(0, 1);
        x.deliver(0);
        return x;
    }

    private static QuorumLog fallen() {
        QuorumLog x = led();
        x.fail(0);
        return x;
    }

    private static QuorumLog risen() {
        QuorumLog x = fallen();
        x.recover(0);
        return x;
    }

    // ---- servers and links

    @Says(in = "Promise 2", value = "Throws `IllegalArgumentException` if members is not 1 to 7")
    static void foundsWithOneToSeven() {
        for (int wrong : new int[] {0, 8, -1, Integer.MAX_VALUE, Integer.MIN_VALUE}) {
            refusesInAnyState("found " + wrong, ARGUMENT, x -> x.found(wrong));
        }
        answers("found 1", RefusalsTest::busy, 1, x -> x.found(1));
        answers("found 7", RefusalsTest::busy, 4, x -> x.found(7));
    }

    @Says(in = "Promise 3", value = NO_SERVER)
    static void failsServersOnly() {
        needsServer(QuorumLog::fail);
    }

    @Says(in = "Promise 3", value = DOWN)
    static void failsNoneThatIsDown() {
        refuses("fail again", RefusalsTest::busy, STATE, x -> x.fail(3));
        refuses("the leader again", RefusalsTest::fallen, STATE, x -> x.fail(0));
        answers("one that is up again", RefusalsTest::risen, 6, x -> x.fail(0));
    }

    @Says(in = "Promise 4", value = NO_SERVER)
    static void recoversServersOnly() {
        needsServer(QuorumLog::recover);
    }

    @Says(in = "Promise 4", value = "Throws `IllegalStateException` if it is up")
    static void recoversNoneThatIsUp() {
        for (int s = 0; s < 7; s++) {
            int server = s;
            refuses("recover " + server, QuorumLog::new, STATE, x -> x.recover(server));
        }
        refuses("a leader", RefusalsTest::led, STATE, x -> x.recover(0));
        refuses("one that is up again", RefusalsTest::risen, STATE, x -> x.recover(0));
        answers("one that is down", RefusalsTest::fallen, 7, x -> x.recover(0));
    }

    @Says(in = "Promise 5", value = NONE_OF_BOTH)
    static void cutsBetweenServersOnly() {
        needsServers(QuorumLog::cut);
    }

    @Says(in = "Promise 5", value = SAME)
    static void cutsBetweenTwoOnly() {
        needsTwoServers(QuorumLog::cut);
    }

    @Says(in = "Promise 5", value = "Throws `IllegalStateException` if it is cut")
    static void cutsNothingTwice() {
        refuses("cut again", RefusalsTest::busy, STATE, x -> x.cut(1, 4));
        refuses("the other way", RefusalsTest::busy, STATE, x -> x.cut(4, 1));
        answers("another one of the same server", RefusalsTest::busy, 2, x -> x.cut(1, 3));
        answers("another one of the other", RefusalsTest::busy, 2, x -> x.cut(0, 4));
    }

    @Says(in = "Promise 6", value = NONE_OF_BOTH)
    static void mendsBetweenServersOnly() {
        needsServers(QuorumLog::mend);
    }

    @Says(in = "Promise 6", value = SAME)
    static void mendsBetweenTwoOnly() {
        needsTwoServers(QuorumLog::mend);
    }

    @Says(in = "Promise 6", value = "Throws `IllegalStateException` if it is whole")
    static void mendsNothingWhole() {
        for (int one = 0; one < 7; one++) {
            for (int other = 0; other < 7; other++) {
                int a = one;
                int b = other;
                Object due = a == b ? ARGUMENT : STATE;
                is("mend " + a + " " + b, outcomeOf(QuorumLog::new, x -> x.mend(a, b)), due);
            }
        }
        refuses("mend", RefusalsTest::busy, STATE, x -> x.mend(1, 3));
        refuses("mend", RefusalsTest::busy, STATE, x -> x.mend(0, 4));
        answers("what is cut", RefusalsTest::busy, 0, x -> x.mend(1, 4));
        answers("the other way", RefusalsTest::busy, 0, x -> x.mend(4, 1));
    }

    @Says(in = "Promise 7", value = "Throws `IllegalArgumentException` if rounds is not 1 to 30")
    static void passesOneToThirtyRounds() {
        for (int wrong : new int[] {0, 31, -1, Integer.MAX_VALUE, Integer.MIN_VALUE}) {
            refusesInAnyState("pass " + wrong, ARGUMENT, x -> x.pass(wrong));
        }
        for (int rounds : new int[] {1, 30}) {
            QuorumLog x = new QuorumLog();
            is("pass " + rounds, x.pass(rounds), 0);
            is("rounds", x.round(), rounds);
        }
    }

    @Says(in = "Promise 8", value = NO_SERVER)
    static void soundsServersOnly() {
        needsServer(QuorumLog::sound);
    }

    @Says(in = "Promise 8",
            value = "Throws `IllegalStateException` if it is down, a leader, or not among the members that it sees")
    static void soundsOnlyWhoMay() {
        refuses("a member that is down", RefusalsTest::busy, STATE, x -> x.sound(3));
        refuses("a leader", RefusalsTest::led, STATE, x -> x.sound(0));
        refuses("a leader with no member beside it", Checks::alone, STATE, x -> x.sound(0));
        refuses("no member", RefusalsTest::led, STATE, x -> x.sound(3));
        refuses("who joins, without the entry", RefusalsTest::joining, STATE, x -> x.sound(3));
        answers("who led, and is up again", RefusalsTest::risen, 1, x -> x.sound(0));
        answers("a follower", RefusalsTest::led, 1, x -> x.sound(1));
        answers("a sounder", RefusalsTest::sounding, 1, x -> x.sound(1));
        answers("a candidate", RefusalsTest::standing, 1, x -> x.sound(1));
    }

    @Says(in = "Promise 9", value = NO_SERVER)
    static void beatsServersOnly() {
        needsServer(QuorumLog::beat);
    }

    @Says(in = "Promise 9", value = "Throws `IllegalStateException` if it is no leader")
    static void beatsLeadersOnly() {
        needsLeader((x, one, other) -> x.beat(one));
        answers("a leader", RefusalsTest::led, 2, x -> x.beat(0));
    }

    @Says(in = "Promise 10", value = NO_SERVER)
    static void shortensServersOnly() {
        needsServer(QuorumLog::shorten);
    }

    @Says(in = "Promise 10",
            value = "Throws `IllegalStateException` if it is down, or has applied no further than its snapshot goes")
    static void shortensWhatIsAppliedOnly() {
        refuses("down, with a log", RefusalsTest::fallen, STATE, x -> x.shorten(0));
        refuses("up again, nothing applied yet", RefusalsTest::risen, STATE, x -> x.shorten(0));
        refuses("nothing at all", QuorumLog::new, STATE, x -> x.shorten(0));
        refuses("entries, but none applied", RefusalsTest::early, STATE, x -> x.shorten(0));
        refuses("no further than the snapshot", RefusalsTest::shortened, STATE, x -> x.shorten(0));
        answers("one index further", RefusalsTest::led, 1, x -> x.shorten(0));
    }

    @Says(in = "Promise 11", value = NO_SERVER_OR_LEADER)
    static void handsOverBetweenServersOnly() {
        needsServers(QuorumLog::handOver);
    }

    @Says(in = "Promise 11", value = SAME)
    static void handsOverToAnotherOnly() {
        needsTwoServers(QuorumLog::handOver);
    }

    @Says(in = "Promise 11", value = "Throws `IllegalStateException` if the leader is none, the other one is not among"
            + " the members that it sees, or matched of the other one is less than the last index of the leader")
    static void handsOverToWhoHasAllOnly() {
        needsLeader(QuorumLog::handOver);
        refuses("no member, who has all", RefusalsTest::leftWithAll, STATE, x -> x.handOver(0, 2));
        refuses("no member", RefusalsTest::led, STATE, x -> x.handOver(0, 5));
        refuses("one less than the last", RefusalsTest::shortened, STATE, x -> x.handOver(0, 1));
        refuses("matched is 0", RefusalsTest::early, STATE, x -> x.handOver(0, 1));
        answers("as far as the last", RefusalsTest::led, 1, x -> x.handOver(0, 1));
    }

    /** Server 2 is no member any more, but matched of it is the last index. */
    private static QuorumLog leftWithAll() {
        QuorumLog x = led();
        x.beat(0);
        x.deliver(1);
        x.leave(0, 2);
        x.deliver(1);
        x.deliver(1);
        x.deliver(1);
        is("matched of 2", x.matchedOf(0, 2), x.lastOf(0));
        is("2 is a member", x.sees(0, 2), false);
        return x;
    }

    @Says(in = "Promise 12", value = NO_SERVER_OR_LEADER)
    static void joinsServersOnly() {
        needsServers(QuorumLog::join);
    }

    @Says(in = "Promise 12", value = "Throws `IllegalStateException` if the leader is none, has not committed an entry"
            + " of its own term, has an entry of members that it has not committed, or 40 entries or more in its log,"
            + " or the other one is among the members that it sees")
    static void joinsOnlyIfItMay() {
        needsLeader((x, leader, other) -> x.join(leader, 6));
        changesMembersOnlyIfItMay((x, leader, other) -> x.join(leader, 6));
        for (int s = 0; s < 3; s++) {
            int member = s;
            refuses("a member", RefusalsTest::led, STATE, x -> x.join(0, member));
        }
        answers("no member", RefusalsTest::led, 2, x -> x.join(0, 3));
        answers("no member", RefusalsTest::led, 2, x -> x.join(0, 6));
    }

    /** What join and leave need alike. */
    private static void changesMembersOnlyIfItMay(OfTwo use) {
        refuses("nothing is committed", RefusalsTest::early, STATE, x -> use.of(x, 0, 1));
        refuses("nothing of its own term is", RefusalsTest::early2, STATE, x -> use.of(x, 1, 0));
        refuses("an entry of members", RefusalsTest::joining, STATE, x -> use.of(x, 0, 1));
        refuses("one behind what is committed", RefusalsTest::joiningBehind, STATE, x -> use.of(x, 0, 1));
        answers("committed then", RefusalsTest::joined, 5, x -> use.of(x, 0, 5));
        for (int entries = 39; entries <= 42; entries++) {
            int all = entries;
            Object due = all < 40 ? Integer.valueOf(all + 3) : STATE;
            is("with " + all, outcomeOf(() -> membersWith(all), x -> use.of(x, 0, 1)), due);
        }
        refuses("with 40", () -> membersWith(40), STATE, x -> use.of(x, 0, 1));
    }

    /** Server 0 leads two members, its snapshot goes up to 2, and its log has so many entries, all committed. */
    private static QuorumLog membersWith(int entries) {
        QuorumLog x = filledForTwo(Math.min(entries, 40));
        while (x.lastOf(0) - x.snapshotOf(0) < entries) {
            x.fail(0);
            x.recover(0);
            x.fail(1);
            x.recover(1);
            x.sound(0);
            deliverAllBut(x, 0);
        }
        is("entries", x.lastOf(0) - x.snapshotOf(0), entries);
        is("leads", x.roleOf(0), 3);
        is("all committed", x.committedOf(0), x.lastOf(0));
        is("snapshot", x.snapshotOf(0), 2);
        return x;
    }

    @Says(in = "Promise 13", value = NO_SERVER_OR_LEADER)
    static void leavesServersOnly() {
        needsServers(QuorumLog::leave);
    }

    @Says(in = "Promise 13", value = "Throws `IllegalStateException` if the leader is none, has not committed an entry"
            + " of its own term, has an entry of members that it has not committed, or 40 entries or more in its log,"
            + " or the other one is not among the members that it sees, or is the only one")
    static void leavesOnlyIfItMay() {
        needsLeader((x, leader, other) -> x.leave(leader, 2));
        changesMembersOnlyIfItMay(QuorumLog::leave);
        for (int s = 3; s < 7; s++) {
            int none = s;
            refuses("no member", RefusalsTest::led, STATE, x -> x.leave(0, none));
        }
        refuses("the only one", Checks::alone, STATE, x -> x.leave(0, 0));
        refuses("none, with one only", Checks::alone, STATE, x -> x.leave(0, 1));
        answers("one of two", () -> settled(2), 2, x -> x.leave(0, 1));
        answers("the leader of two", () -> settled(2), 2, x -> x.leave(0, 0));
    }

    // ---- messages

    @Says(in = "Promise 15", value = NO_MESSAGE)
    static void deliversMessagesOnly() {
        needsMessage(QuorumLog::deliver);
    }

    @Says(in = "Promise 16", value = NO_MESSAGE)
    static void losesMessagesOnly() {
        needsMessage(QuorumLog::lose);
    }

    @Says(in = "Promise 17", value = NO_MESSAGE)
    static void sendsMessagesTwiceOnly() {
        needsMessage(QuorumLog::twice);
    }

    @Says(in = "Promise 17", value = "Throws `IllegalStateException` if there are 60")
    static void sendsNothingTwiceAtSixty() {
        refuses("the first one", RefusalsTest::crowded, STATE, x -> x.twice(0));
        refuses("the last one", RefusalsTest::crowded, STATE, x -> x.twice(59));
        answers("at 59", RefusalsTest::nearlyCrowded, 60, x -> x.twice(0));
        answers("the last one at 59", RefusalsTest::nearlyCrowded, 60, x -> x.twice(58));
    }

    private static QuorumLog nearlyCrowded() {
        QuorumLog x = crowded();
        x.lose(30);
        return x;
    }

    @Says(in = "Promise 18", value = NO_MESSAGE)
    static void kindOfMessagesOnly() {
        needsMessage(QuorumLog::kindOfMessage);
    }

    @Says(in = "Promise 19", value = NO_MESSAGE)
    static void senderOfMessagesOnly() {
        needsMessage(QuorumLog::senderOf);
    }

    @Says(in = "Promise 20", value = NO_MESSAGE)
    static void receiverOfMessagesOnly() {
        needsMessage(QuorumLog::receiverOf);
    }

    @Says(in = "Promise 21", value = NO_MESSAGE)
    static void termOfMessagesOnly() {
        needsMessage(QuorumLog::termOfMessage);
    }

    @Says(in = "Promise 22", value = NO_MESSAGE)
    static void tellsOfMessagesOnly() {
        needsMessage(QuorumLog::tells);
    }

    // ---- clients

    private static void asksOfClientsAndKeysOnly(OfThree ask) {
        needsClient((x, client) -> ask.of(x, client, 0, 1));
        needsKey((x, key) -> ask.of(x, 3, key, 1));
    }

    private static void asksWithValuesOnly(OfOne ask) {
        for (int wrong : NO_VALUES) {
            refusesInAnyState("value " + wrong, ARGUMENT, x -> ask.of(x, wrong));
        }
        for (int right : new int[] {9999, -9999, 0}) {
            answers("value " + right, QuorumLog::new, 1, x -> ask.of(x, right));
        }
    }

    /** In busy(), client 0 has handed over its request, client 1 is answered, client 2 has only asked, 3 has not. */
    private static void asksOnceAtATime(OfThree ask) {
        refuses("handed over, not answered", RefusalsTest::busy, STATE, x -> ask.of(x, 0, 7, 1));
        refuses("not handed over", RefusalsTest::busy, STATE, x -> ask.of(x, 2, 7, 1));
        answers("answered", RefusalsTest::busy, 2, x -> ask.of(x, 1, 7, 1));
        answers("none yet", RefusalsTest::busy, 1, x -> ask.of(x, 3, 7, 1));
    }

    @Says(in = "Promise 23", value = NO_CLIENT + " or key")
    static void putsOfClientsAndKeysOnly() {
        asksOfClientsAndKeysOnly(QuorumLog::askPut);
    }

    @Says(in = "Promise 23", value = NO_VALUE)
    static void putsValuesOnly() {
        asksWithValuesOnly((x, value) -> x.askPut(3, 0, value));
    }

    @Says(in = "Promise 23", value = NOT_ANSWERED)
    static void putsOnceAtATime() {
        asksOnceAtATime(QuorumLog::askPut);
    }

    @Says(in = "Promise 24", value = NO_CLIENT + " or key")
    static void addsOfClientsAndKeysOnly() {
        asksOfClientsAndKeysOnly(QuorumLog::askAdd);
    }

    @Says(in = "Promise 24", value = NO_VALUE)
    static void addsValuesOnly() {
        asksWithValuesOnly((x, value) -> x.askAdd(3, 0, value));
    }

    @Says(in = "Promise 24", value = NOT_ANSWERED)
    static void addsOnceAtATime() {
        asksOnceAtATime(QuorumLog::askAdd);
    }

    @Says(in = "Promise 25", value = NO_CLIENT + " or key")
    static void swapsOfClientsAndKeysOnly() {
        asksOfClientsAndKeysOnly((x, client, key, value) -> x.askSwap(client, key, 0, value));
    }

    @Says(in = "Promise 25", value = "Throws `IllegalArgumentException` if expected or value is not -9999 to 9999")
    static void swapsValuesOnly() {
        asksWithValuesOnly((x, value) -> x.askSwap(3, 0, 0, value));
        asksWithValuesOnly((x, expected) -> x.askSwap(3, 0, expected, 0));
        asksWithValuesOnly((x, both) -> x.askSwap(3, 0, both, both));
    }

    @Says(in = "Promise 25", value = NOT_ANSWERED)
    static void swapsOnceAtATime() {
        asksOnceAtATime((x, client, key, value) -> x.askSwap(client, key, 0, value));
    }

    @Says(in = "Promise 26", value = NO_CLIENT + " or server")
    static void handsOfClientsToServersOnly() {
        needsClient((x, client) -> x.hand(client, 0));
        needsServer((x, server) -> x.hand(0, server));
    }

    @Says(in = "Promise 26", value = "Throws `IllegalStateException` if the client has no request, or it is answered,"
            + " or the server is no leader, or has 40 entries or more in its log")
    static void handsOnlyWhatWaitsToLeadersWithRoom() {
        refuses("no request", RefusalsTest::led, STATE, x -> x.hand(0, 0));
        refuses("no request, but another has one", RefusalsTest::busy, STATE, x -> x.hand(3, 0));
        refuses("answered", RefusalsTest::busy, STATE, x -> x.hand(1, 0));
        refuses("to a follower", RefusalsTest::busy, STATE, x -> x.hand(0, 1));
        refuses("to a sounder", RefusalsTest::busy, STATE, x -> x.hand(0, 2));
        refuses("to one that is down", RefusalsTest::busy, STATE, x -> x.hand(0, 3));
        refuses("to no member", RefusalsTest::busy, STATE, x -> x.hand(0, 6));
        answers("a request that waits", RefusalsTest::busy, 4, x -> x.hand(2, 0));
        answers("one that was handed over", RefusalsTest::busy, 4, x -> x.hand(0, 0));
        for (int entries = 38; entries <= 42; entries++) {
            int all = entries;
            Object due = all < 40 ? Integer.valueOf(all + 1) : STATE;
            is("with " + all, outcomeOf(() -> askedWith(all), x -> x.hand(1, 0)), due);
        }
        refuses("with 40", () -> askedWith(40), STATE, x -> x.hand(1, 0));
        refuses("with 41", () -> askedWith(41), STATE, x -> x.hand(1, 0));
    }

    private static QuorumLog askedWith(int entries) {
        QuorumLog x = filled(entries);
        is("entries", x.lastOf(0) - x.snapshotOf(0), entries);
        x.askAdd(1, 0, 0);
        return x;
    }

    @Says(in = "Promise 27", value = NO_CLIENT)
    static void serialOfClientsOnly() {
        needsClient(QuorumLog::serialOf);
    }

    @Says(in = "Promise 28", value = NO_CLIENT)
    static void isAnsweredOfClientsOnly() {
        needsClient(QuorumLog::isAnswered);
    }

    @Says(in = "Promise 29", value = NO_CLIENT)
    static void answerToClientsOnly() {
        needsClient(QuorumLog::answerTo);
    }

    @Says(in = "Promise 29", value = "Throws `IllegalStateException` if it has none, or it is not answered")
    static void answerToWhoIsAnsweredOnly() {
        refuses("none", RefusalsTest::busy, STATE, x -> x.answerTo(3));
        refuses("not handed over", RefusalsTest::busy, STATE, x -> x.answerTo(2));
        refuses("handed over, not answered", RefusalsTest::busy, STATE, x -> x.answerTo(0));
        answers("answered", RefusalsTest::busy, 0, x -> x.answerTo(1));
        refuses("the next one is not", RefusalsTest::askedAgain, STATE, x -> x.answerTo(1));
    }

    private static QuorumLog askedAgain() {
        QuorumLog x = busy();
        x.askPut(1, 0, 0);
        return x;
    }

    // ---- what a server has

    @Says(in = "Promise 32", value = NO_SERVER)
    static void isUpOfServersOnly() {
        needsServer(QuorumLog::isUp);
    }

    @Says(in = "Promise 33", value = NO_SERVER)
    static void roleOfServersOnly() {
        needsServer(QuorumLog::roleOf);
    }

    @Says(in = "Promise 34", value = NO_SERVER)
    static void termOfServersOnly() {
        needsServer(QuorumLog::termOf);
    }

    @Says(in = "Promise 35", value = NO_SERVER)
    static void votedForOfServersOnly() {
        needsServer(QuorumLog::votedFor);
    }

    @Says(in = "Promise 36", value = NO_SERVER)
    static void followsOfServersOnly() {
        needsServer(QuorumLog::follows);
    }

    @Says(in = "Promise 37", value = NO_SERVER)
    static void waitedOfServersOnly() {
        needsServer(QuorumLog::waitedOf);
    }

    @Says(in = "Promise 38", value = NO_SERVER)
    static void patienceOfServersOnly() {
        needsServer(QuorumLog::patienceOf);
    }

    @Says(in = "Promise 39", value = NO_SERVER)
    static void snapshotOfServersOnly() {
        needsServer(QuorumLog::snapshotOf);
    }

    @Says(in = "Promise 40", value = NO_SERVER)
    static void lastOfServersOnly() {
        needsServer(QuorumLog::lastOf);
    }

    @Says(in = "Promise 41", value = NO_SERVER)
    static void lastTermOfServersOnly() {
        needsServer(QuorumLog::lastTermOf);
    }

    @Says(in = "Promise 42", value = NO_SERVER)
    static void committedOfServersOnly() {
        needsServer(QuorumLog::committedOf);
    }

    @Says(in = "Promise 43", value = NO_SERVER)
    static void membersOfServersOnly() {
        needsServer(QuorumLog::membersOf);
    }

    @Says(in = "Promise 44", value = NO_SERVER + " or other")
    static void seesServersOnly() {
        needsServers(QuorumLog::sees);
    }

    @Says(in = "Promise 45", value = NO_SERVER + ", or neither has this index")
    static void termAtIndicesOnly() {
        needsServer((x, server) -> x.termAt(server, 0));
        for (int none : new int[] {-1, 0, 1, 5, 60, Integer.MAX_VALUE, Integer.MIN_VALUE}) {
            refuses("index " + none, RefusalsTest::shortened, INDEX, x -> x.termAt(0, none));
        }
        refuses("index 1 of an empty log", QuorumLog::new, INDEX, x -> x.termAt(0, 1));
        refuses("index -1 of an empty log", QuorumLog::new, INDEX, x -> x.termAt(0, -1));
        for (int index = 2; index <= 4; index++) {
            int one = index;
            answers("index " + one, RefusalsTest::shortened, 1, x -> x.termAt(0, one));
        }
        answers("index of the first snapshot", QuorumLog::new, 0, x -> x.termAt(6, 0));
    }

    @Says(in = "Promise 46", value = NO_ENTRY)
    static void kindAtEntriesOnly() {
        needsEntry(QuorumLog::kindAt);
    }

    @Says(in = "Promise 47", value = NO_ENTRY)
    static void valueAtEntriesOnly() {
        needsEntry(QuorumLog::valueAt);
    }

    @Says(in = "Promise 48", value = NO_ENTRY)
    static void clientAtEntriesOnly() {
        needsEntry(QuorumLog::clientAt);
    }

    @Says(in = "Promise 49", value = NO_ENTRY)
    static void serialAtEntriesOnly() {
        needsEntry(QuorumLog::serialAt);
    }

    @Says(in = "Promise 50", value = NO_SERVER + " or key")
    static void valueOfServersAndKeysOnly() {
        needsServer((x, server) -> x.valueOf(server, 0));
        needsKey((x, key) -> x.valueOf(0, key));
    }

    @Says(in = "Promise 51", value = NO_SERVER + " or client")
    static void appliedSerialOfServersAndClientsOnly() {
        needsServer((x, server) -> x.appliedSerial(server, 0));
        needsClient((x, client) -> x.appliedSerial(0, client));
    }

    @Says(in = "Promise 52", value = NO_SERVER_OR_LEADER)
    static void nextOfServersOnly() {
        needsServers(QuorumLog::nextOf);
    }

    @Says(in = "Promise 52", value = SAME)
    static void nextOfAnotherOnly() {
        needsTwoServers(QuorumLog::nextOf);
    }

    @Says(in = "Promise 52", value = LEADER_IS_NONE)
    static void nextByLeadersOnly() {
        needsLeader(QuorumLog::nextOf);
        answers("of a leader", RefusalsTest::led, 2, x -> x.nextOf(0, 1));
    }

    @Says(in = "Promise 53", value = NO_SERVER_OR_LEADER)
    static void matchedOfServersOnly() {
        needsServers(QuorumLog::matchedOf);
    }

    @Says(in = "Promise 53", value = SAME)
    static void matchedOfAnotherOnly() {
        needsTwoServers(QuorumLog::matchedOf);
    }

    @Says(in = "Promise 53", value = LEADER_IS_NONE)
    static void matchedByLeadersOnly() {
        needsLeader(QuorumLog::matchedOf);
        answers("of a leader", RefusalsTest::led, 1, x -> x.matchedOf(0, 1));
    }

    // ---- all together, and what would be

    @Says(in = "Promise 57", value = NONE_OF_BOTH)
    static void agreeOfServersOnly() {
        needsServers(QuorumLog::agreeUpTo);
        answers("the same twice", RefusalsTest::led, 1, x -> x.agreeUpTo(0, 0));
    }

    @Says(in = "Promise 58", value = NO_ENTRY)
    static void copiesOfEntriesOnly() {
        needsEntry(QuorumLog::copiesOf);
    }

    @Says(in = "Promise 59", value = NO_SERVER)
    static void couldWinOfServersOnly() {
        needsServer(QuorumLog::couldWin);
    }

    @Says(in = "Promise 60", value = "Throws `IndexOutOfBoundsException` if there is no such key")
    static void valuesOfKeysOnly() {
        needsKey(QuorumLog::valuesOf);
    }

    @Says(in = "Promise 62", value = NO_CLIENT)
    static void roundsToAnswerOfClientsOnly() {
        needsClient(QuorumLog::roundsToAnswer);
    }

    @Says(in = "Promise 64", value = NO_SERVER)
    static void roleIfSoundingOfServersOnly() {
        needsServer(QuorumLog::roleIfSounding);
    }

    @Says(in = "Promise 65", value = NO_SERVER)
    static void roundsWithoutServersOnly() {
        needsServer(QuorumLog::roundsWithout);
    }

    @Says(in = "Promise 65", value = DOWN)
    static void roundsWithoutWhoIsUpOnly() {
        refuses("a member that is down", RefusalsTest::busy, STATE, x -> x.roundsWithout(3));
        refuses("a leader that is down", RefusalsTest::fallen, STATE, x -> x.roundsWithout(0));
        answers("one that is up again", RefusalsTest::risen, 9, x -> x.roundsWithout(0));
    }

    // ---- the first of several exceptions

    private static void indexIsFirst(String what, Supplier<QuorumLog> state, Use use) {
        refuses(what, state, INDEX, use);
    }

    private static void argumentIsFirst(String what, Supplier<QuorumLog> state, Use use) {
        refuses(what, state, ARGUMENT, use);
    }

    @Says(in = "Terms 4", value = FIRST)
    static void firstOfSeveralByCutAndMend() {
        for (int none : NO_SERVERS) {
            indexIsFirst("cut none from itself", QuorumLog::new, x -> x.cut(none, none));
            indexIsFirst("mend none to itself", QuorumLog::new, x -> x.mend(none, none));
            indexIsFirst("mend none, which is whole", QuorumLog::new, x -> x.mend(none, 1));
            indexIsFirst("mend to none, which is whole", QuorumLog::new, x -> x.mend(1, none));
        }
        argumentIsFirst("mend with itself, which is whole", QuorumLog::new, x -> x.mend(2, 2));
        argumentIsFirst("cut from itself", RefusalsTest::busy, x -> x.cut(1, 1));
    }

    @Says(in = "Terms 4", value = FIRST)
    static void firstOfSeveralByHandOver() {
        for (int none : NO_SERVERS) {
            indexIsFirst("none to itself", RefusalsTest::led, x -> x.handOver(none, none));
            indexIsFirst("no leader, to none", RefusalsTest::led, x -> x.handOver(1, none));
            indexIsFirst("none, to no member", RefusalsTest::led, x -> x.handOver(none, 5));
        }
        argumentIsFirst("no leader, to itself", RefusalsTest::led, x -> x.handOver(1, 1));
        argumentIsFirst("no member, to itself", RefusalsTest::led, x -> x.handOver(5, 5));
        argumentIsFirst("matched of itself is 0", RefusalsTest::led, x -> x.handOver(0, 0));
    }

    @Says(in = "Terms 4", value = FIRST)
    static void firstOfSeveralByJoinAndLeave() {
        for (int none : NO_SERVERS) {
            indexIsFirst("no leader, none joins", RefusalsTest::led, x -> x.join(1, none));
            indexIsFirst("too early, none joins", RefusalsTest::early, x -> x.join(0, none));
            indexIsFirst("another joins, none joins", RefusalsTest::joining, x -> x.join(0, none));
            indexIsFirst("40 entries, none joins", () -> filled(40), x -> x.join(0, none));
            indexIsFirst("none leads, a member joins", RefusalsTest::led, x -> x.join(none, 1));
            indexIsFirst("no leader, none leaves", RefusalsTest::led, x -> x.leave(1, none));
            indexIsFirst("too early, none leaves", RefusalsTest::early, x -> x.leave(0, none));
            indexIsFirst("another joins, none leaves", RefusalsTest::joining, x -> x.leave(0, none));
            indexIsFirst("40 entries, none leaves", () -> filled(40), x -> x.leave(0, none));
            indexIsFirst("none leads, no member leaves", RefusalsTest::led, x -> x.leave(none, 5));
        }
    }

    @Says(in = "Terms 4", value = FIRST)
    static void firstOfSeveralByTwice() {
        for (int none : new int[] {-1, 60, Integer.MAX_VALUE, Integer.MIN_VALUE}) {
            indexIsFirst("no message at 60", RefusalsTest::crowded, x -> x.twice(none));
        }
    }

    /** In busy(), the latest request of client 0 is not answered. */
    private static void firstOfSeveralBy(OfThree ask) {
        for (int none : NO_CLIENTS) {
            indexIsFirst("no client, no value", RefusalsTest::busy, x -> ask.of(x, none, 0, 10000));
        }
        for (int none : NO_KEYS) {
            indexIsFirst("no key, no value", RefusalsTest::busy, x -> ask.of(x, 1, none, -10000));
            indexIsFirst("no key, not answered", RefusalsTest::busy, x -> ask.of(x, 0, none, 0));
            indexIsFirst("no key, no value, not answered", RefusalsTest::busy, x -> ask.of(x, 0, none, 10000));
        }
        for (int none : NO_VALUES) {
            argumentIsFirst("no value, not answered", RefusalsTest::busy, x -> ask.of(x, 0, 0, none));
        }
    }

    @Says(in = "Terms 4", value = FIRST)
    static void firstOfSeveralByAskPut() {
        firstOfSeveralBy(QuorumLog::askPut);
    }

    @Says(in = "Terms 4", value = FIRST)
    static void firstOfSeveralByAskAdd() {
        firstOfSeveralBy(QuorumLog::askAdd);
    }

    @Says(in = "Terms 4", value = FIRST)
    static void firstOfSeveralByAskSwap() {
        firstOfSeveralBy((x, client, key, value) -> x.askSwap(client, key, 0, value));
        firstOfSeveralBy((x, client, key, expected) -> x.askSwap(client, key, expected, 0));
    }

    @Says(in = "Terms 4", value = FIRST)
    static void firstOfSeveralByHand() {
        for (int none : NO_SERVERS) {
            indexIsFirst("no request, no server", RefusalsTest::busy, x -> x.hand(3, none));
            indexIsFirst("answered, no server", RefusalsTest::busy, x -> x.hand(1, none));
        }
        for (int none : NO_CLIENTS) {
            indexIsFirst("no client, no leader", RefusalsTest::busy, x -> x.hand(none, 1));
            indexIsFirst("no client, 40 entries", () -> filled(40), x -> x.hand(none, 0));
        }
    }

    @Says(in = "Terms 4", value = FIRST)
    static void firstOfSeveralByNextAndMatched() {
        for (int none : NO_SERVERS) {
            indexIsFirst("next: none, the same", RefusalsTest::led, x -> x.nextOf(none, none));
            indexIsFirst("next: no leader, of none", RefusalsTest::led, x -> x.nextOf(1, none));
            indexIsFirst("matched: none, the same", RefusalsTest::led, x -> x.matchedOf(none, none));
            indexIsFirst("matched: no leader, of none", RefusalsTest::led, x -> x.matchedOf(1, none));
        }
        argumentIsFirst("next: no leader, the same", RefusalsTest::led, x -> x.nextOf(1, 1));
        argumentIsFirst("matched: no leader, the same", RefusalsTest::led, x -> x.matchedOf(1, 1));
    }

    @Says(in = "Terms 4", value = "A method that throws an exception changes nothing.")
    static void refusedCallsChangeNothing() {
        for (Supplier<QuorumLog> state : STATES) {
            QuorumLog x = state.get();
            int full = x.messages();
            List<Call> refused = List.of(() -> x.found(0), () -> x.fail(7), () -> x.recover(0), () -> x.cut(2, 2),
                    () -> x.mend(0, 1), () -> x.pass(31), () -> x.sound(5), () -> x.beat(1), () -> x.shorten(-1),
                    () -> x.handOver(1, 0), () -> x.join(1, 5), () -> x.leave(1, 0), () -> x.deliver(full),
                    () -> x.lose(full), () -> x.twice(full), () -> x.askPut(0, 0, 10000), () -> x.askAdd(4, 0, 0),
                    () -> x.askSwap(0, 0, 10000, 0), () -> x.hand(3, 1), () -> x.answerTo(3), () -> x.nextOf(1, 0),
                    () -> x.matchedOf(1, 1), () -> x.roundsWithout(7), () -> x.roundsToAnswer(4));
            for (Call call : refused) {
                is("is refused", outcome(call) instanceof Class, true);
            }
            is("all behind them", story(x), story(state.get()));
        }
    }
}
