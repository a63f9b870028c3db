/** The sentences of "Terms", ahead of its sections and in section 1, that name a boundary case. */
public final class Terms1Test extends Checks {

    public static void main(String[] args) throws Exception {
        playAllThatSay(Terms1Test.class);
    }

    @Says(in = "Ahead", value = "An object is used for at most 512 calls after it has been made")
    static void fiveHundredAndTwelveCalls() {
        QuorumLog x = new QuorumLog();
        for (int i = 0; i < 511; i++) {
            x.pass(30);
        }
        is("the 512th call", x.round(), 511 * 30);
        QuorumLog y = founded(1);
        y.sound(0);
        for (int i = 2; i + 3 < 512; i += 3) {
            y.askAdd(0, 0, 9999);
            y.hand(0, 0);
            y.shorten(0);
        }
        is("169 adds", y.valueOf(0, 0), 169 * 9999);
    }

    @Says(in = "Terms 0", value = "By numbers means in the order of the numbers of the servers.")
    static void byNumbers() {
        QuorumLog x = founded(7);
        x.sound(3);
        is("sounds", row(x), "1:3>0 t1 i0; 1:3>1 t1 i0; 1:3>2 t1 i0; 1:3>4 t1 i0; 1:3>5 t1 i0; 1:3>6 t1 i0; ");
    }

    @Says(in = "Terms 1", value = "There are seven, numbered from 0, each up or down.")
    static void sevenServers() {
        QuorumLog x = founded(7);
        for (int s = 0; s < 7; s++) {
            is("is up", x.isUp(s), true);
            is("up then", x.fail(s), 6 - s);
            is("is down", x.isUp(s), false);
        }
        is("with none up nothing is lost", x.pass(30), 0);
        is("rounds go by", x.round(), 30);
        for (int s = 6; s >= 0; s--) {
            is("up then", x.recover(s), 7 - s);
            is("is up", x.isUp(s), true);
        }
    }

    @Says(in = "Terms 1", value = "Between each two of them there is a link, whole or cut.")
    static void linksBetweenEachTwo() {
        QuorumLog all = founded(7);
        int cut = 0;
        for (int one = 0; one < 7; one++) {
            for (int other = one + 1; other < 7; other++) {
                cut++;
                is("cut", all.cut(other, one), cut);
                QuorumLog x = founded(7);
                x.cut(one, other);
                losesBetween(x, one, other);
                losesBetween(x, other, one);
            }
        }
        is("links", cut, 21);
        all.sound(3);
        is("over none a message arrives", all.pass(1), 6);
        for (int one = 0; one < 7; one++) {
            for (int other = one + 1; other < 7; other++) {
                cut--;
                is("mend", all.mend(one, other), cut);
            }
        }
        all.sound(3);
        is("over all messages arrive", all.pass(1), 0);
    }

    private static void losesBetween(QuorumLog x, int sender, int receiver) {
        x.sound(sender);
        for (int i = 0; i < 6; i++) {
            int to = x.receiverOf(0);
            is("from " + sender + " to " + to + " arrives", x.deliver(0), to != receiver);
        }
        loseAll(x);
    }

    @Says(in = "Terms 1", value = "A server always keeps a term, for whom it voted in this term (a server, or nobody),"
            + " a log and a snapshot.")
    static void alwaysKept() {
        QuorumLog x = settled(3);
        put(x, 0, 0, 1, 5);
        x.pass(6);
        x.shorten(1);
        put(x, 1, 0, 1, 6);
        x.pass(6);
        x.fail(1);
        is("term, down", x.termOf(1), 1);
        is("voted, down", x.votedFor(1), 0);
        is("last, down", x.lastOf(1), 3);
        is("entry, down", x.valueAt(1, 3), 6);
        is("snapshot, down", x.snapshotOf(1), 2);
        x.recover(1);
        is("term", x.termOf(1), 1);
        is("voted", x.votedFor(1), 0);
        is("last", x.lastOf(1), 3);
        is("snapshot", x.snapshotOf(1), 2);
        x.fail(6);
        is("nobody, down", x.votedFor(6), -1);
        QuorumLog y = founded(3);
        y.sound(0);
        y.sound(2);
        arrives(y, 1, 0, 1);
        arrives(y, 1, 2, 1);
        arrives(y, 2, 1, 0);
        arrives(y, 2, 1, 2);
        arrives(y, 3, 0, 1);
        is("voted for 0 in term 1", y.votedFor(1), 0);
        y.fail(1);
        y.recover(1);
        arrives(y, 3, 2, 1);
        is("2 is refused in term 1, for the vote is kept", lastMessage(y), "4:1>2 t1 i0; ");
    }

    @Says(in = "Terms 1", value = "The log is a row of entries with indices one behind the other.")
    static void indicesOneBehindTheOther() {
        QuorumLog x = alone();
        for (int index = 2; index <= 40; index++) {
            is("index", put(x, 0, 0, 0, index), index);
        }
        for (int index = 2; index <= 40; index++) {
            is("value at " + index, x.valueAt(0, index), index);
        }
    }

    /** A request handed over again and again; server 0 shortens its log, the others never do. */
    @Says(in = "Terms 1", value = "The log is a row of entries with indices one behind the other.")
    static void logsThatAreNotShortenedHaveNoEnd() {
        QuorumLog x = settled(3);
        while (x.lastOf(0) < 132) {
            x.askAdd(0, 0, 1);
            for (int i = x.lastOf(0) == 1 ? 1 : 0; i < 4; i++) {
                x.hand(0, 0);
            }
            x.pass(4);
            is("last of 1", x.lastOf(1) + " " + x.lastTermOf(1), x.lastOf(0) + " 1");
            if (x.lastOf(0) - x.snapshotOf(0) > 30) {
                x.shorten(0);
            }
        }
        x.pass(4);
        int last = x.lastOf(0);
        is("of one that does not shorten", x.snapshotOf(1) + " " + x.lastOf(1) + " " + x.committedOf(1), "0 " + last + " " + last);
        for (int index = 2; index <= last; index++) {
            is("serial at " + index, x.serialAt(1, index), 1 + (index - 1) / 4);
        }
        is("applied", x.valueOf(1, 0), last / 4);
        is("would agree", x.roundsToAgree(), 0);
        is("agree", x.agreeUpTo(1, 2), last);
        is("less by one half", x.shorten(1), last);
    }

    @Says(in = "Terms 1", value = {
        "An entry has a term and a kind: 0 empty, 1 put, 2 add, 3 swap, 4 members.",
        "Put, add and swap have a client, a serial, a key and a value, swap an expected value, too;"
            + " an entry of members has a set of servers."})
    static void kindsOfEntries() {
        QuorumLog x = settled(3);
        x.askPut(0, 0, -7);
        x.hand(0, 0);
        x.askAdd(3, 7, 9);
        x.hand(3, 0);
        x.askSwap(1, 7, 9, 11);
        x.hand(1, 0);
        x.askSwap(2, 0, -8, 12);
        x.hand(2, 0);
        x.join(0, 6);
        String[] due = {"0 1 0 -1 0", "1 1 -7 0 1", "2 1 9 3 1", "3 1 11 1 1", "3 1 12 2 1", "4 1 4 -1 0"};
        for (int i = 1; i <= 6; i++) {
            String entry = x.kindAt(0, i) + " " + x.termAt(0, i) + " " + x.valueAt(0, i) + " " + x.clientAt(0, i) + " "
                    + x.serialAt(0, i);
            is("entry " + i, entry, due[i - 1]);
        }
        x.pass(8);
        is("put at key 0, swap did not expect it", x.valueOf(0, 0), -7);
        is("add at key 7, swap expected it", x.valueOf(0, 7), 11);
        is("who joins is in the set", x.sees(1, 6), true);
        is("who does not is not", x.sees(1, 5), false);
    }

    @Says(in = "Terms 1", value = "The snapshot has an index and a term, and the table and the members as they were"
            + " behind the entry with this index.")
    static void snapshotStaysAsItWas() {
        QuorumLog x = settled(3);
        put(x, 0, 0, 1, 5);
        x.join(0, 3);
        x.pass(6);
        is("committed", x.committedOf(1), 3);
        x.shorten(1);
        is("index", x.snapshotOf(1), 3);
        is("term", x.termAt(1, 3), 1);
        put(x, 0, 0, 1, 6);
        put(x, 1, 0, 2, 7);
        x.leave(0, 2);
        x.pass(8);
        is("value behind it", x.valueOf(1, 1), 6);
        is("members behind it", x.membersOf(1), 3);
        x.fail(1);
        is("its value", x.valueOf(1, 1), 5);
        is("its other value", x.valueOf(1, 2), 0);
        is("its serial", x.appliedSerial(1, 0), 1);
        is("its other serial", x.appliedSerial(1, 1), 0);
        QuorumLog y = settled(3);
        y.shorten(0);
        y.join(0, 3);
        is("an entry of members behind it", y.membersOf(0), 4);
        y.beat(0);
        arrives(y, 5, 0, 3);
        arrives(y, 6, 3, 0);
        arrives(y, 7, 0, 3);
        is("has the snapshot", y.snapshotOf(3), 1);
        is("with its members", y.membersOf(3), 3);
    }

    @Says(in = "Terms 1", value = "The first entry of the log has the index one behind that of the snapshot.")
    static void firstIndexOfTheLog() {
        QuorumLog x = settled(3);
        is("first of all", x.kindAt(0, 1), 0);
        refused(x, INDEX, "the one ahead", () -> x.kindAt(0, 0));
        put(x, 0, 0, 0, 7);
        put(x, 1, 0, 0, 8);
        x.pass(6);
        put(x, 2, 0, 0, 9);
        x.shorten(0);
        is("snapshot", x.snapshotOf(0), 3);
        is("first", x.valueAt(0, 4), 9);
        refused(x, INDEX, "the snapshot's", () -> x.valueAt(0, 3));
    }

    @Says(in = "Terms 1", value = "The last index of a server is that of the last entry of its log, and its last term"
            + " the term of it; without entries both are those of the snapshot.")
    static void lastOfAnEmptyLog() {
        QuorumLog x = new QuorumLog();
        is("last", x.lastOf(0), 0);
        is("last term", x.lastTermOf(0), 0);
        QuorumLog y = settled(3);
        is("last", y.lastOf(1), 1);
        is("last term", y.lastTermOf(1), 1);
        y.shorten(1);
        is("last, without entries", y.lastOf(1), 1);
        is("last term, without entries", y.lastTermOf(1), 1);
        y.fail(1);
        is("last, down", y.lastOf(1), 1);
        y.recover(1);
        is("could win as before", y.couldWin(1), true);
        y.sound(1);
        is("a sound tells it", y.tells(0), 1);
        y.fail(0);
        arrives(y, 1, 1, 2);
        y.fail(2);
        y.recover(2);
        y.sound(1);
        arrives(y, 1, 1, 2);
        is("as good as one with the entry", lastMessage(y), "2:2>1 t2 i1; ");
    }

    @Says(in = "Terms 1", value = "A table has a value for each of 8 keys, numbered from 0, and for each of 4 clients,"
            + " numbered from 0, the serial of the latest request that was applied, and what that gave.")
    static void eightKeysAndFourClients() {
        QuorumLog x = alone();
        for (int k = 0; k < 8; k++) {
            put(x, k % 4, 0, k, 10 + k);
        }
        for (int k = 0; k < 8; k++) {
            is("value of " + k, x.valueOf(0, k), 10 + k);
        }
        for (int c = 0; c < 4; c++) {
            is("serial of " + c, x.appliedSerial(0, c), 2);
            for (int i = 0; i <= c; i++) {
                x.askAdd(c, c, 1);
                x.hand(c, 0);
            }
            is("more of " + c, x.appliedSerial(0, c), 3 + c);
            is("gave " + c, x.answerTo(c), 11 + 2 * c);
        }
        is("the last one is as before", x.valueOf(0, 7), 17);
        is("what it gave the first is kept", x.answerTo(0), 11);
    }

    /** The second entry of a request is applied by a leader whose table came with a snapshot. */
    @Says(in = "Terms 1", value = {"and what that gave.", "The snapshot has an index and a term, and the table"})
    static void whatItGaveIsInTheSnapshot() {
        QuorumLog x = settled(3);
        x.askAdd(0, 0, 5);
        x.hand(0, 0);
        sendsTo(x, 0, 1);
        x.hand(0, 0);
        x.deliver(0);
        x.deliver(0);
        is("committed, answered", x.committedOf(0) + " " + x.answerTo(0), "2 5");
        x.shorten(0);
        loseAll(x);
        sendsTo(x, 0, 2);
        x.deliver(0);
        x.deliver(0);
        x.deliver(0);
        is("a snapshot up to 2, and 3", x.snapshotOf(2) + " " + x.lastOf(2), "2 3");
        x.fail(0);
        leadsAnew(x, 2, 1);
        x.pass(6);
        is("applied the second one", x.leader() + " " + x.committedOf(2), "2 4");
        is("answers what the first one gave", x.answerTo(0) + " " + x.valueOf(2, 0), "5 5");
    }

    @Says(in = "Terms 1", value = "The members that a server sees are those of the last entry of members in its log"
            + " (committed or not), without one those of its snapshot.")
    static void membersOfTheLastEntry() {
        QuorumLog x = settled(3);
        is("of the snapshot", x.membersOf(0), 3);
        x.join(0, 3);
        is("not committed", x.membersOf(0), 4);
        x.pass(6);
        x.join(0, 4);
        is("of the last one", x.membersOf(0), 5);
        is("of the last one that 1 has", x.membersOf(1), 4);
        isolate(x, 0);
        x.pass(4);
        x.sound(1);
        elects(x, 1, 2, 3);
        is("1 leads four", x.membersOf(1), 4);
        rejoin(x, 0);
        x.pass(8);
        is("the last one is taken away, the one before is the last", x.membersOf(0), 4);
        is("sees 3", x.sees(0, 3), true);
        is("does not see 4", x.sees(0, 4), false);
        x.shorten(0);
        is("no entries", x.lastOf(0), x.snapshotOf(0));
        is("of the newer snapshot", x.membersOf(0), 4);
        QuorumLog z = settled(3);
        z.join(0, 3);
        z.pass(6);
        z.shorten(0);
        z.leave(0, 3);
        z.pass(6);
        z.join(0, 5);
        sendsTo(z, 0, 5);
        arrives(z, 5, 0, 5);
        arrives(z, 6, 5, 0);
        is("a snapshot", row(z) + z.membersOf(5), "7:0>5 t1 i2; 3");
        arrives(z, 7, 0, 5);
        is("those of a snapshot that comes", z.membersOf(5) + " " + z.sees(5, 3) + " " + z.sees(5, 5), "4 true false");
        QuorumLog y = settled(3);
        isolate(y, 0);
        y.leave(0, 1);
        is("not committed", y.membersOf(0), 2);
        y.pass(4);
        y.sound(1);
        y.pass(6);
        rejoin(y, 0);
        y.pass(8);
        is("the only one is taken away, the snapshot's are seen", y.membersOf(0), 3);
    }

    @Says(in = "Terms 1", value = "Most of them means more than half as many as they are.")
    static void mostIsMoreThanHalf() {
        for (int members = 1; members <= 7; members++) {
            int most = members / 2 + 1;
            is("most of " + members, founded(members).found(members), most);
            QuorumLog x = founded(members);
            x.sound(0);
            // With itself there are one less than most, then most.
            for (int s = 1; s < most; s++) {
                is("sounds, with " + s + " of " + members, x.roleOf(0), 1);
                arrives(x, 1, 0, s);
                arrives(x, 2, s, 0);
            }
            for (int s = 1; s < most; s++) {
                is("stands, with " + s + " of " + members, x.roleOf(0), 2);
                arrives(x, 3, 0, s);
                arrives(x, 4, s, 0);
            }
            is("leads with most of " + members, x.roleOf(0), 3);
            for (int s = 1; s < most; s++) {
                is("not committed with " + s + " of " + members, x.committedOf(0), 0);
                arrives(x, 5, 0, s);
                is("could win with less good ones only", x.couldWin(s), 2 * (members - 1) > members || s + 1 >= most);
                arrives(x, 6, s, 0);
            }
            is("committed with most of " + members, x.committedOf(0), 1);
            is("one that has nothing could not win", x.couldWin(6), 2 * (members - most) > members);
        }
    }

    @Says(in = "Terms 1", value = "As long as it is up, a server has besides: a role, 0 follower, 1 sounder,"
            + " 2 candidate, 3 leader; whom it follows (a server, or nobody); how many rounds it has waited;"
            + " how far it has committed and applied; its own table, as it is behind the entries that it has applied;"
            + " and, as a leader, for each other server the next index that it sends to it, and the index up to which"
            + " that has what the leader has (matched).")
    static void besides() {
        QuorumLog x = founded(3);
        is("follower", x.roleOf(0), 0);
        x.sound(0);
        is("sounder", x.roleOf(0), 1);
        arrives(x, 1, 0, 1);
        arrives(x, 2, 1, 0);
        is("candidate", x.roleOf(0), 2);
        arrives(x, 3, 0, 1);
        arrives(x, 4, 1, 0);
        is("leader", x.roleOf(0), 3);
        arrives(x, 5, 0, 1);
        arrives(x, 6, 1, 0);
        is("whom 1 follows", x.follows(1), 0);
        is("whom 2 follows", x.follows(2), -1);
        is("committed", x.committedOf(0), 1);
        for (int s = 1; s < 7; s++) {
            is("next of " + s, x.nextOf(0, s), s == 1 ? 2 : 1);
            is("matched of " + s, x.matchedOf(0, s), s == 1 ? 1 : 0);
        }
        put(x, 0, 0, 3, 4);
        is("the table is behind what is applied", x.valueOf(0, 3), 0);
    }

    @Says(in = "Terms 1", value = "As it goes down, and so as long as it is down, its role is 0, it follows nobody and"
            + " has waited 0 rounds, and it has committed and applied as far as its snapshot goes, with the table of"
            + " that.")
    static void down() {
        QuorumLog x = settled(3);
        put(x, 0, 0, 1, 5);
        x.pass(6);
        x.shorten(1);
        put(x, 1, 0, 1, 6);
        x.pass(6);
        is("waited before", x.waitedOf(1), 1);
        is("committed before", x.committedOf(1), 3);
        x.fail(1);
        for (int i = 0; i < 2; i++) {
            is("role", x.roleOf(1), 0);
            is("follows", x.follows(1), -1);
            is("waited", x.waitedOf(1), 0);
            is("committed", x.committedOf(1), 2);
            is("value", x.valueOf(1, 1), 5);
            is("serial", x.appliedSerial(1, 1), 0);
            x.pass(20);
        }
        x.recover(1);
        is("committed, up again", x.committedOf(1), 2);
        is("value, up again", x.valueOf(1, 1), 5);
        is("waited, up again", x.waitedOf(1), 0);
        x.fail(0);
        is("a leader's role", x.roleOf(0), 0);
        is("all that it had applied", x.committedOf(0), 0);
        x.fail(3);
        is("without anything", x.committedOf(3), 0);
        QuorumLog y = founded(3);
        y.sound(0);
        y.sound(1);
        arrives(y, 1, 1, 2);
        arrives(y, 2, 2, 1);
        y.fail(0);
        y.fail(1);
        is("a sounder's role", y.roleOf(0), 0);
        is("a candidate's role", y.roleOf(1), 0);
        is("a candidate's term", y.termOf(1), 1);
    }

    @Says(in = "Terms 1", value = "In the beginning (found) the round is 0, and nothing was lost; all are up, followers"
            + " that follow nobody, have waited 0 rounds and committed up to 0; all links whole, no message under way;"
            + " the first servers are members, and all have the term 0, voted for nobody, and have an empty log, and a"
            + " snapshot with the index 0, the term 0, all values, serials and what was given 0, and these members;"
            + " the clients have no request, with the serial 0.")
    static void beginning() {
        for (int members = 1; members <= 7; members++) {
            isBeginning(founded(members), members);
            isBeginning(usedAndFounded(members), members);
            is("as a new one with " + members, story(usedAndFounded(members)), story(founded(members)));
        }
        isBeginning(new QuorumLog(), 3);
        is("a new one has three", story(new QuorumLog()), story(founded(3)));
    }

    private static QuorumLog usedAndFounded(int members) {
        QuorumLog x = settled(5);
        x.cut(1, 4);
        put(x, 1, 0, 2, 7);
        x.join(0, 6);
        x.pass(6);
        x.shorten(0);
        x.fail(3);
        put(x, 0, 0, 1, 5);
        x.askSwap(2, 1, 5, 6);
        x.beat(0);
        x.sound(2);
        x.lose(0);
        x.found(members);
        return x;
    }

    private static void isBeginning(QuorumLog x, int members) {
        is("round", x.round(), 0);
        is("lost", x.lost(), 0);
        is("messages", x.messages(), 0);
        for (int s = 0; s < 7; s++) {
            is("isUp", x.isUp(s), true);
            is("role, follows, waited, committed",
                    x.roleOf(s) + " " + x.follows(s) + " " + x.waitedOf(s) + " " + x.committedOf(s), "0 -1 0 0");
            is("members", x.membersOf(s), members);
            is("the last member", x.sees(s, members - 1), true);
            is("one behind it", members < 7 && x.sees(s, members), false);
            is("term, voted, last, last term, snapshot", x.termOf(s) + " " + x.votedFor(s) + " " + x.lastOf(s) + " "
                    + x.lastTermOf(s) + " " + x.snapshotOf(s), "0 -1 0 0 0");
            is("term at 0", x.termAt(s, 0), 0);
            for (int k = 0; k < 8; k++) {
                is("value", x.valueOf(s, k), 0);
            }
            for (int c = 0; c < 4; c++) {
                is("applied serial", x.appliedSerial(s, c), 0);
            }
        }
        for (int c = 0; c < 4; c++) {
            is("serial", x.serialOf(c), 0);
            is("answered", x.isAnswered(c), false);
        }
    }
}
