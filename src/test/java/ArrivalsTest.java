/** The sentences of section 3 of "Terms" on what arrives, by kinds, that name a boundary case. */
public final class ArrivalsTest extends Checks {
    private static final String YES_TO_A_SOUND = "It is a yes, with the term of the sound, if that is greater than its"
            + " own, the log of the sender is (by the sound) as good as its own, it is no leader, and it follows"
            + " nobody or has waited 4 rounds or more; otherwise a no, with its own term.";
    private static final String REPLY_TO_A_SOUND = "2, a reply to a sound: if it is a yes, the receiver is a sounder,"
            + " and the term is 1 greater than its own, it has a yes of the sender, and if it has yeses of most of the"
            + " members that it sees then (those of others don't count), it stands for election.";
    private static final String YES_TO_A_CALL = "It is a yes, if the term of the call is its own, it has voted for"
            + " nobody or for the sender, and the log of the sender is (by the call) as good as its own; then it has"
            + " voted for the sender, and has waited 0 rounds.";
    private static final String REPLY_TO_A_CALL = "4, a reply to a call: if it is a yes, the receiver is a candidate,"
            + " and the term is its own, it has a yes of the sender, and if it has yeses of most of the members that"
            + " it sees then (those of others don't count), it leads.";

    public static void main(String[] args) throws Exception {
        playAllThatSay(ArrivalsTest.class);
    }

    // ---- 1, a sound

    @Says(in = "Terms 3", value = {"1, a sound: the receiver sends back a reply (2).", YES_TO_A_SOUND})
    static void soundsOfNoGreaterTerm() {
        for (int term = 0; term <= 2; term++) {
            // Server 1 gets this term by the calls of server 0; the logs are all empty.
            QuorumLog x = founded(3);
            for (int i = 0; i < term; i++) {
                x.sound(0);
                arrives(x, 1, 0, 1);
                arrives(x, 2, 1, 0);
                arrives(x, 3, 0, 1);
                loseAll(x);
            }
            is("term", x.termOf(1) + " " + x.follows(1), term + " -1");
            x.sound(2);
            arrives(x, 1, 2, 1);
            is("a sound of term 1 in term " + term, lastMessage(x), term < 1 ? "2:1>2 t1 i1; " : "2:1>2 t" + term + " i0; ");
            is("leaves the term", x.termOf(1), term);
        }
    }

    @Says(in = "Terms 3", value = YES_TO_A_SOUND)
    static void soundsToALeader() {
        QuorumLog x = settled(3);
        x.sound(1);
        arrives(x, 1, 1, 0);
        is("a leader refuses, though it follows nobody", lastMessage(x), "2:0>1 t1 i0; ");
        restart(x, 0);
        x.sound(1);
        arrives(x, 1, 1, 0);
        is("the same one as a follower of nobody does not", lastMessage(x), "2:0>1 t2 i1; ");
    }

    @Says(in = "Terms 3", value = YES_TO_A_SOUND)
    static void soundsToWhoFollows() {
        for (int waited = 0; waited <= 6; waited++) {
            QuorumLog x = settled(3);
            x.beat(0);
            arrives(x, 5, 0, 2);
            loseAll(x);
            x.fail(0);
            x.fail(1);
            for (int i = 0; i < waited; i++) {
                x.pass(1);
            }
            x.recover(1);
            is("has waited", x.waitedOf(2) + " " + x.follows(2), waited + " 0");
            x.sound(1);
            arrives(x, 1, 1, 2);
            is("having waited " + waited, lastMessage(x), waited < 4 ? "2:2>1 t1 i0; " : "2:2>1 t2 i1; ");
            is("it waits on, and follows yet", state(x, 2), "role 0 term 1 voted 0 follows 0 waited " + waited);
        }
        QuorumLog y = settled(3);
        restart(y, 2);
        y.sound(1);
        arrives(y, 1, 1, 2);
        is("follows nobody, and has waited 0", lastMessage(y), "2:2>1 t2 i1; ");
        QuorumLog z = founded(3);
        z.sound(0);
        z.sound(1);
        arrives(z, 1, 0, 1);
        is("a sounder says yes", lastMessage(z), "2:1>0 t1 i1; ");
        is("and is one yet", z.roleOf(1), 1);
        arrives(z, 2, 1, 0);
        restart(z, 1);
        z.sound(1);
        loseAll(z);
        z.sound(1);
        arrives(z, 1, 1, 0);
        is("a candidate of term 1 refuses a sound of term 1", lastMessage(z), "2:0>1 t1 i0; ");
        arrives(z, 2, 0, 1);
        loseAll(z);
        z.sound(1);
        arrives(z, 1, 1, 0);
        is("and says yes to one of term 2", lastMessage(z), "2:0>1 t2 i1; ");
        is("and is one yet", z.roleOf(0) + " " + z.termOf(0), "2 1");
    }

    // ---- 2, a reply to a sound

    @Says(in = "Terms 3", value = REPLY_TO_A_SOUND)
    static void yesesOfMost() {
        for (int members = 2; members <= 7; members++) {
            QuorumLog x = founded(members);
            x.sound(0);
            for (int yeses = 1; 2 * yeses <= members; yeses++) {
                is(yeses + " of " + members, x.roleOf(0), 1);
                arrives(x, 1, 0, yeses);
                x.twice(find(x, 2, yeses, 0));
                arrives(x, 2, yeses, 0);
                if (2 * (yeses + 1) <= members) {
                    arrives(x, 2, yeses, 0);
                    is("the same yes twice is one", x.roleOf(0), 1);
                }
            }
            is("most of " + members, x.roleOf(0) + " " + x.termOf(0), "2 1");
        }
    }

    @Says(in = "Terms 3", value = REPLY_TO_A_SOUND)
    static void yesesOfThoseThatAreNoMembers() {
        QuorumLog x = settled(4);
        restart(x, 3);
        x.sound(1);
        arrives(x, 1, 1, 3);
        is("a yes", lastMessage(x), "2:3>1 t2 i1; ");
        x.leave(0, 3);
        x.beat(0);
        arrives(x, 5, 0, 1);
        is("server 3 is no member for 1", x.sees(1, 3), false);
        loseAllBut(x, 2, 3, 1);
        x.sound(1);
        arrives(x, 2, 3, 1);
        is("its yes does not count", state(x, 1), "role 1 term 1 voted 0 follows -1 waited 0");
        restart(x, 2);
        put(x, 0, 0, 0, 1);
        arrives(x, 1, 1, 2);
        arrives(x, 2, 2, 1);
        is("that of a member does: two of three", x.roleOf(1), 2);
    }

    @Says(in = "Terms 3", value = REPLY_TO_A_SOUND)
    static void yesesThatComeTooLate() {
        QuorumLog x = founded(3);
        x.sound(0);
        arrives(x, 1, 0, 1);
        x.sound(2);
        arrives(x, 1, 2, 1);
        arrives(x, 2, 1, 2);
        arrives(x, 3, 2, 0);
        is("0 has term 1 by the call", state(x, 0), "role 0 term 1 voted 2 follows -1 waited 0");
        x.sound(0);
        arrives(x, 2, 1, 0);
        is("a yes of term 1, which is not 1 greater", state(x, 0), "role 1 term 1 voted 2 follows -1 waited 0");
        QuorumLog y = founded(3);
        y.sound(0);
        arrives(y, 1, 0, 1);
        restart(y, 0);
        arrives(y, 2, 1, 0);
        is("a follower has no yes", state(y, 0), "role 0 term 0 voted -1 follows -1 waited 0");
        QuorumLog z = founded(3);
        z.sound(0);
        arrives(z, 1, 0, 1);
        arrives(z, 1, 0, 2);
        arrives(z, 2, 1, 0);
        is("stands", z.roleOf(0) + " " + row(z), "2 2:2>0 t1 i1; 3:0>1 t1 i0; 3:0>2 t1 i0; ");
        arrives(z, 2, 2, 0);
        is("a candidate does not stand again", z.roleOf(0) + " " + z.termOf(0) + " " + z.messages(), "2 1 2");
    }

    @Says(in = "Terms 3", value = REPLY_TO_A_SOUND)
    static void noesToASound() {
        QuorumLog x = settled(3);
        x.sound(1);
        arrives(x, 1, 1, 2);
        arrives(x, 1, 1, 0);
        is("two noes", row(x), "2:2>1 t1 i0; 2:0>1 t1 i0; ");
        x.pass(1);
        is("a sounder yet, or a follower by the beat", x.termOf(1) + " " + x.votedFor(1), "1 0");
        is("nobody stands", find(x, 3, 1, 0), -1);
    }

    // ---- 3, a call

    @Says(in = "Terms 3", value = {"3, a call: the receiver sends back a reply (4) with its own term.", YES_TO_A_CALL})
    static void callsOfAnElderTerm() {
        QuorumLog x = founded(5);
        for (int i = 1; i <= 2; i++) {
            x.sound(0);
            for (int s = 1; s <= 2; s++) {
                lastArrives(x, 1, 0, s);
                lastArrives(x, 2, s, 0);
            }
            is("stands in term " + i, x.roleOf(0) + " " + x.termOf(0), "2 " + i);
        }
        lastArrives(x, 3, 0, 4);
        is("yes in term 2", lastMessage(x), "4:4>0 t2 i1; ");
        is("voted", state(x, 4), "role 0 term 2 voted 0 follows -1 waited 0");
        QuorumLog y = founded(5);
        y.sound(0);
        for (int s = 1; s <= 2; s++) {
            arrives(y, 1, 0, s);
            arrives(y, 2, s, 0);
        }
        loseAllBut(y, 3, 0, 4);
        y.sound(0);
        for (int s = 1; s <= 2; s++) {
            arrives(y, 1, 0, s);
            arrives(y, 2, s, 0);
        }
        lastArrives(y, 3, 0, 4);
        arrives(y, 3, 0, 4);
        is("a no to the call of term 1, though for the same sender", lastMessage(y), "4:4>0 t2 i0; ");
        is("the vote stays", state(y, 4), "role 0 term 2 voted 0 follows -1 waited 0");
    }

    @Says(in = "Terms 3", value = YES_TO_A_CALL)
    static void oneVoteInATerm() {
        QuorumLog y = settled(3);
        y.handOver(0, 1);
        y.deliver(0);
        y.twice(find(y, 3, 1, 2));
        is("voted in term 1", y.votedFor(2), 0);
        arrives(y, 3, 1, 2);
        is("for nobody in term 2: yes", lastMessage(y), "4:2>1 t2 i1; ");
        arrives(y, 3, 1, 2);
        is("for the sender: yes again", lastMessage(y), "4:2>1 t2 i1; ");
        is("voted", y.votedFor(2), 1);
        QuorumLog z = settled(3);
        z.handOver(0, 1);
        z.handOver(0, 2);
        z.deliver(0);
        z.deliver(0);
        arrives(z, 3, 1, 2);
        is("for itself: no", lastMessage(z), "4:2>1 t2 i0; ");
        is("a candidate yet", state(z, 2), "role 2 term 2 voted 2 follows -1 waited 0");
        arrives(z, 3, 2, 0);
        arrives(z, 3, 1, 0);
        is("for another one: no", lastMessage(z), "4:0>1 t2 i0; ");
        is("voted", z.votedFor(0), 2);
    }

    @Says(in = "Terms 3", value = YES_TO_A_CALL)
    static void waitsAnewAtAYesOnly() {
        QuorumLog x = settled(3);
        x.handOver(0, 1);
        x.deliver(0);
        is("waited", x.waitedOf(2), 1);
        x.twice(find(x, 3, 1, 2));
        arrives(x, 3, 1, 2);
        is("at a yes", x.waitedOf(2), 0);
        QuorumLog y = settled(3);
        y.handOver(0, 1);
        y.deliver(0);
        put(y, 0, 0, 0, 1);
        y.beat(0);
        arrives(y, 5, 0, 2);
        is("has an entry more", y.lastOf(2), 2);
        loseAllBut(y, 3, 1, 2);
        y.twice(0);
        y.fail(0);
        y.pass(1);
        is("a no leaves what it has waited", state(y, 2), "role 0 term 2 voted -1 follows -1 waited 1");
    }

    // ---- 4, a reply to a call

    @Says(in = "Terms 3", value = REPLY_TO_A_CALL)
    static void votesOfMost() {
        for (int members = 2; members <= 7; members++) {
            QuorumLog x = settled(members);
            x.handOver(0, 1);
            x.deliver(0);
            for (int votes = 1; 2 * votes <= members; votes++) {
                int voter = votes == 1 ? 0 : votes;
                is(votes + " of " + members, x.roleOf(1), 2);
                arrives(x, 3, 1, voter);
                x.twice(find(x, 4, voter, 1));
                arrives(x, 4, voter, 1);
                if (2 * (votes + 1) <= members) {
                    arrives(x, 4, voter, 1);
                    is("the same vote twice is one", x.roleOf(1), 2);
                }
            }
            is("most of " + members, x.roleOf(1) + " " + x.lastOf(1), "3 2");
            int again = find(x, 4, members <= 3 ? 0 : members / 2, 1);
            is("a vote is left", again >= 0, true);
            x.deliver(again);
            is("a leader does not begin to lead again", x.roleOf(1) + " " + x.lastOf(1), "3 2");
        }
    }

    @Says(in = "Terms 3", value = REPLY_TO_A_CALL)
    static void votesThatComeTooLate() {
        QuorumLog x = settled(3);
        x.handOver(0, 1);
        x.deliver(0);
        arrives(x, 3, 1, 0);
        is("a vote of term 2", lastMessage(x), "4:0>1 t2 i1; ");
        restart(x, 1);
        loseAllBut(x, 4, 0, 1);
        x.twice(0);
        arrives(x, 4, 0, 1);
        is("a follower has no votes", state(x, 1), "role 0 term 2 voted 1 follows -1 waited 0");
        restart(x, 2);
        x.sound(1);
        arrives(x, 1, 1, 2);
        arrives(x, 2, 2, 1);
        is("a candidate of term 3", x.roleOf(1) + " " + x.termOf(1), "2 3");
        arrives(x, 4, 0, 1);
        is("a vote of term 2 is none in term 3", x.roleOf(1), 2);
        arrives(x, 3, 1, 2);
        arrives(x, 4, 2, 1);
        is("one of term 3 is", x.roleOf(1), 3);
        QuorumLog y = settled(3);
        y.handOver(0, 1);
        y.handOver(0, 2);
        y.deliver(0);
        y.deliver(0);
        arrives(y, 3, 1, 2);
        arrives(y, 4, 2, 1);
        is("a no of the same term changes nothing", state(y, 1), "role 2 term 2 voted 1 follows -1 waited 0");
    }

    // ---- 5, entries

    @Says(in = "Terms 3", value = "5, entries: if the term is less than its own, the receiver sends back a no (6) with"
            + " its own term and the index 0.")
    static void entriesOfAnElderTerm() {
        QuorumLog x = settled(3);
        x.handOver(0, 1);
        put(x, 0, 0, 0, 7);
        x.beat(0);
        x.deliver(0);
        is("a candidate of term 2", state(x, 1), "role 2 term 2 voted 1 follows -1 waited 0");
        arrives(x, 5, 0, 1);
        is("a no to entries of term 1", lastMessage(x), "6:1>0 t2 i0; ");
        is("is one yet", state(x, 1), "role 2 term 2 voted 1 follows -1 waited 0");
        is("has no more entries", x.lastOf(1), 1);
        arrives(x, 5, 0, 2);
        is("entries of its own term are taken", lastMessage(x), "6:2>0 t1 i2; ");
    }

    @Says(in = "Terms 3", value = "Otherwise it is a follower, follows the sender, and has waited 0 rounds.")
    static void entriesMakeFollowers() {
        QuorumLog x = founded(3);
        x.sound(0);
        x.sound(1);
        arrives(x, 1, 0, 2);
        arrives(x, 1, 1, 2);
        arrives(x, 2, 2, 0);
        arrives(x, 2, 2, 1);
        arrives(x, 3, 0, 2);
        arrives(x, 4, 2, 0);
        loseAllBut(x, 5, 0, 1);
        x.twice(0);
        is("a candidate of the same term", x.roleOf(1) + " " + x.termOf(1), "2 1");
        arrives(x, 5, 0, 1);
        is("is a follower, its vote stays", state(x, 1), "role 0 term 1 voted 1 follows 0 waited 0");
        loseAllBut(x, 5, 0, 1);
        x.cut(0, 1);
        x.pass(1);
        x.mend(0, 1);
        is("has waited", x.waitedOf(1), 1);
        x.sound(1);
        loseAll(x);
        x.beat(0);
        arrives(x, 5, 0, 1);
        is("a sounder, too", state(x, 1), "role 0 term 1 voted 1 follows 0 waited 0");
    }

    private static final String PREVIOUS = "It has what is previous, if that index is not greater than that of its"
            + " snapshot, or its log has an entry with this index and term.";

    @Says(in = "Terms 3", value = PREVIOUS)
    static void previousInTheSnapshot() {
        QuorumLog x = settled(3);
        x.beat(0);
        x.shorten(1);
        is("snapshot", x.snapshotOf(1) + " " + x.lastOf(1), "1 1");
        arrives(x, 5, 0, 1);
        is("previous is the index of the snapshot", lastMessage(x), "6:1>0 t1 i1; ");
        arrives(x, 6, 1, 0);
        is("a yes", x.nextOf(0, 1), 2);
        QuorumLog y = longSnapshot();
        is("previous is 1, the snapshot goes up to 3", y.snapshotOf(1) + " " + y.lastOf(1), "3 3");
        arrives(y, 5, 0, 1);
        is("a yes up to 2", lastMessage(y), "6:1>0 t1 i2; ");
        is("nothing is appended", y.snapshotOf(1) + " " + y.lastOf(1), "3 3");
        is("nothing is taken back", y.committedOf(1), 3);
    }

    /** Server 1 has a snapshot up to 3 and no entries; under way to it are entries behind 1: 2 alone, and 2 to 5. */
    private static QuorumLog longSnapshot() {
        QuorumLog x = settled(3);
        put(x, 0, 0, 0, 5);
        sendsTo(x, 0, 1);
        put(x, 1, 0, 0, 6);
        sendsTo(x, 0, 2);
        arrives(x, 5, 0, 2);
        arrives(x, 6, 2, 0);
        is("committed by 0 and 2", x.committedOf(0), 3);
        sendsTo(x, 0, 1);
        put(x, 2, 0, 0, 7);
        put(x, 3, 0, 0, 8);
        sendsTo(x, 0, 1);
        is("to 1", row(x), "5:0>1 t1 i2; 5:0>1 t1 i3; 5:0>1 t1 i5; ");
        x.deliver(1);
        is("committed by 1", x.committedOf(1), 3);
        x.shorten(1);
        x.lose(2);
        return x;
    }

    @Says(in = "Terms 3", value = PREVIOUS)
    static void previousInTheLog() {
        for (int last = 1; last <= 4; last++) {
            QuorumLog x = lastOfTwo(last);
            is("last of 2", x.lastOf(2), last);
            sendsTo(x, 0, 2);
            is("previous is 4", x.nextOf(0, 2), 5);
            x.deliver(0);
            is("with the last index " + last, lastMessage(x), last < 4 ? "6:2>0 t2 i" + last + "; " : "6:2>0 t2 i5; ");
            is("last then", x.lastOf(2), last < 4 ? last : 5);
        }
    }

    /** Server 0 leads in term 2 and has 1 to 4 of term 1 and 5 of term 2; server 2 has only so many. */
    private static QuorumLog lastOfTwo(int last) {
        QuorumLog x = settled(3);
        for (int index = 2; index <= 4; index++) {
            put(x, index - 2, 0, 0, index);
            x.beat(0);
            arrives(x, 5, 0, 1);
            arrives(x, 6, 1, 0);
            if (index <= last) {
                arrives(x, 5, 0, 2);
            }
            loseAll(x);
        }
        leadsAnew(x, 0, 1);
        return x;
    }

    /**
     * Server 0 has 1 to 6 of term 1, of which 1 to 3 are committed; server 1 leads in term 3, has 1 to 3, too, then 4
     * of term 2 and 5 of term 3, and the next index that it sends to 0 is 5.
     */
    private static QuorumLog conflict() {
        QuorumLog x = settled(3);
        put(x, 0, 0, 0, 2);
        put(x, 1, 0, 0, 3);
        x.pass(6);
        for (int c = 0; c < 3; c++) {
            put(x, c, 0, 0, 4 + c);
        }
        leadsAnew(x, 1, 2);
        leadsAnew(x, 1, 2);
        is("of 0", x.lastOf(0) + " " + x.lastTermOf(0) + " " + x.committedOf(0), "6 1 3");
        is("of 1", x.lastOf(1) + " " + x.lastTermOf(1) + " " + x.termAt(1, 4) + " " + x.nextOf(1, 0), "5 3 2 5");
        return x;
    }

    /**
     * Server 2 led in term 2, and has 2 and 3 of that term, behind 1 of term 1; server 0 leads in term 3, and has 1 to
     * 3 of term 1 and 4 of term 3.
     */
    private static QuorumLog greaterTermOfItsOwn() {
        QuorumLog x = settled(3);
        put(x, 0, 0, 0, 2);
        put(x, 1, 0, 0, 3);
        leadsAnew(x, 2, 1);
        put(x, 2, 2, 0, 4);
        restart(x, 0);
        x.sound(0);
        arrives(x, 1, 0, 1);
        arrives(x, 2, 1, 0);
        leadsAnew(x, 0, 1);
        is("of 2", x.lastOf(2) + " " + x.termAt(2, 1) + " " + x.termAt(2, 2) + " " + x.termAt(2, 3), "3 1 2 2");
        is("of 0", x.lastOf(0) + " " + x.termAt(0, 3) + " " + x.termAt(0, 4) + " " + x.nextOf(0, 2), "4 1 3 4");
        return x;
    }

    @Says(in = "Terms 3", value = PREVIOUS)
    static void previousWithAGreaterTermOfItsOwn() {
        QuorumLog x = greaterTermOfItsOwn();
        sendsTo(x, 0, 2);
        x.deliver(0);
        is("an entry with this index and a greater term is not it", row(x), "6:2>0 t3 i1; ");
        x.deliver(0);
        is("2 to 4 come", row(x), "5:0>2 t3 i4; ");
        x.deliver(0);
        is("those of the greater term are taken away", x.lastOf(2) + " " + x.termAt(2, 2) + " " + x.termAt(2, 3) + " "
                + x.termAt(2, 4), "4 1 1 3");
    }

    private static final String WHERE_TO_GO_ON = "If it has not, it sends back a no (6) with its term and an index: its"
            + " last index, if that is less than the previous one; otherwise the index ahead of all entries right up to"
            + " that with the previous index, in its log, that have the same term as this one of its own, but no less"
            + " than how far it has committed.";

    @Says(in = "Terms 3", value = WHERE_TO_GO_ON)
    static void goesOnBehindItsLastIndex() {
        QuorumLog x = lastOfTwo(3);
        sendsTo(x, 0, 2);
        x.deliver(0);
        is("one less than previous", row(x), "6:2>0 t2 i3; ");
        QuorumLog y = settled(3);
        y.join(0, 6);
        sendsTo(y, 0, 6);
        y.deliver(0);
        is("an empty log", row(y), "6:6>0 t1 i0; ");
        QuorumLog z = lastOfTwo(1);
        z.shorten(2);
        is("an empty log behind a snapshot", z.snapshotOf(2) + " " + z.lastOf(2), "1 1");
        sendsTo(z, 0, 2);
        z.deliver(0);
        is("its last index", row(z), "6:2>0 t2 i1; ");
    }

    @Says(in = "Terms 3", value = WHERE_TO_GO_ON)
    static void goesOnNoLessThanCommitted() {
        QuorumLog x = conflict();
        sendsTo(x, 1, 0);
        x.deliver(0);
        is("all up to 4 have term 1, but 3 are committed", row(x), "6:0>1 t3 i3; ");
        is("nothing is taken away", x.lastOf(0), 6);
        is("it follows", state(x, 0), "role 0 term 3 voted -1 follows 1 waited 0");
        QuorumLog y = conflict();
        restart(y, 0);
        sendsTo(y, 1, 0);
        y.deliver(0);
        is("up again, nothing is committed", row(y), "6:0>1 t3 i0; ");
        QuorumLog z = conflict();
        z.shorten(0);
        restart(z, 0);
        sendsTo(z, 1, 0);
        z.deliver(0);
        is("no less than the snapshot", row(z), "6:0>1 t3 i3; ");
    }

    @Says(in = "Terms 3", value = WHERE_TO_GO_ON)
    static void goesOnAheadOfTheTermOfItsOwn() {
        for (int previous = 3; previous <= 5; previous++) {
            QuorumLog x = settled(3);
            put(x, 0, 0, 0, 2);
            x.pass(6);
            leadsAnew(x, 0, 1);
            put(x, 1, 0, 0, 4);
            put(x, 2, 0, 0, 5);
            is("of 0: 1 and 2 of term 1, 3 to 5 of term 2", x.lastOf(0) + " " + x.termAt(0, 2) + " " + x.termAt(0, 3), "5 1 2");
            is("nothing is committed", x.committedOf(0), 0);
            while (x.lastOf(1) <= previous) {
                leadsAnew(x, 1, 2);
            }
            sendsTo(x, 1, 0);
            is("next", x.nextOf(1, 0), previous + 1);
            int term = x.termOf(1);
            x.deliver(0);
            is("previous is " + previous, row(x), "6:0>1 t" + term + " i2; ");
        }
    }

    private static final String TAKEN = "If it has, each entry, in order, that is not in its log (with its index and"
            + " term) and is not up to its snapshot: all entries from its index on are taken away, and it is appended;";

    @Says(in = "Terms 3", value = TAKEN)
    static void entriesUpToTheSnapshotAreNotAppended() {
        QuorumLog x = longSnapshot();
        is("2 to 5", x.tells(1), 5);
        x.deliver(1);
        is("4 and 5 are appended", x.snapshotOf(1) + " " + x.lastOf(1), "3 5");
        is("values", x.valueAt(1, 4) + " " + x.valueAt(1, 5), "7 8");
        is("a yes up to 5", lastMessage(x), "6:1>0 t1 i5; ");
        x.deliver(0);
        is("2 alone", x.snapshotOf(1) + " " + x.lastOf(1), "3 5");
    }

    @Says(in = "Terms 3", value = TAKEN)
    static void entriesThatAreInTheLogStay() {
        QuorumLog x = settled(3);
        sendsTo(x, 0, 1);
        put(x, 0, 0, 0, 5);
        sendsTo(x, 0, 1);
        put(x, 1, 0, 0, 6);
        sendsTo(x, 0, 1);
        is("none, 2, and 2 and 3", row(x), "5:0>1 t1 i1; 5:0>1 t1 i2; 5:0>1 t1 i3; ");
        x.twice(2);
        x.deliver(2);
        is("all of them first", x.lastOf(1), 3);
        x.deliver(0);
        is("none takes nothing away", x.lastOf(1) + " " + lastMessage(x), "3 6:1>0 t1 i1; ");
        x.deliver(0);
        is("one of both takes nothing away", x.lastOf(1) + " " + lastMessage(x), "3 6:1>0 t1 i2; ");
        x.deliver(0);
        is("both take nothing away", x.lastOf(1) + " " + lastMessage(x), "3 6:1>0 t1 i3; ");
        is("values", x.valueAt(1, 2) + " " + x.valueAt(1, 3), "5 6");
    }

    @Says(in = "Terms 3", value = TAKEN)
    static void entriesOfAnotherTermAreTakenAway() {
        QuorumLog x = conflict();
        sendsTo(x, 1, 0);
        x.deliver(0);
        x.deliver(0);
        is("4 and 5 come", row(x), "5:1>0 t3 i5; ");
        x.deliver(0);
        is("4 to 6 are taken away", x.lastOf(0) + " " + x.termAt(0, 4) + " " + x.termAt(0, 5), "5 2 3");
        is("up to 3 they stay", x.valueAt(0, 2) + " " + x.valueAt(0, 3), "2 3");
        QuorumLog y = conflict();
        restart(y, 0);
        sendsTo(y, 1, 0);
        y.deliver(0);
        y.deliver(0);
        is("1 to 4 come", row(y), "5:1>0 t3 i4; ");
        y.deliver(0);
        is("4 takes 4 to 6 away", y.lastOf(0) + " " + y.termAt(0, 3) + " " + y.termAt(0, 4), "4 1 2");
        QuorumLog z = settled(3);
        put(z, 0, 0, 0, 2);
        leadsAnew(z, 1, 2);
        sendsTo(z, 1, 0);
        is("of 0: 2, of term 1, is the last one", z.lastOf(0) + " " + z.termAt(0, 2) + " " + row(z), "2 1 5:1>0 t2 i2; ");
        z.deliver(0);
        is("it alone is taken away", z.lastOf(0) + " " + z.termAt(0, 2) + " " + row(z), "2 2 6:0>1 t2 i2; ");
    }

    private static final String COMMITTED = "then it has committed up to where the leader had committed as it sent this,"
            + " or the index of the last entry in the message (without one the previous index), if that is less,"
            + " unless it had committed as far already; it applies;";

    @Says(in = "Terms 3", value = COMMITTED)
    static void committedByEntries() {
        QuorumLog x = settled(3);
        for (int index = 2; index <= 7; index++) {
            put(x, index % 4, 0, index, index);
            x.beat(0);
            arrives(x, 5, 0, 1);
            arrives(x, 6, 1, 0);
            loseAll(x);
        }
        is("committed by the leader", x.committedOf(0), 7);
        sendsTo(x, 0, 2);
        x.deliver(0);
        is("the last entry in the message is less", x.committedOf(2) + " " + x.lastOf(2), "5 5");
        is("applied up to it", x.valueOf(2, 5) + " " + x.valueOf(2, 6), "5 0");
        x.deliver(0);
        put(x, 0, 0, 1, 8);
        loseAll(x);
        sendsTo(x, 0, 2);
        x.deliver(0);
        is("where the leader had committed is less", x.committedOf(2) + " " + x.lastOf(2), "7 8");
        is("applied up to it", x.valueOf(2, 7) + " " + x.valueOf(2, 1), "7 0");
        QuorumLog y = settled(3);
        restart(y, 1);
        sendsTo(y, 0, 1);
        y.deliver(0);
        is("without an entry, up to the previous one", y.committedOf(1) + " " + lastMessage(y), "1 6:1>0 t1 i1; ");
    }

    @Says(in = "Terms 3", value = COMMITTED)
    static void committedAsFarAlready() {
        QuorumLog x = settled(3);
        put(x, 0, 0, 0, 5);
        sendsTo(x, 0, 1);
        x.twice(0);
        x.deliver(0);
        lastArrives(x, 6, 1, 0);
        sendsTo(x, 0, 1);
        lastArrives(x, 5, 0, 1);
        is("committed", x.committedOf(1), 2);
        is("an old one, sent with 1 committed", row(x).startsWith("5:0>1 t1 i2; "), true);
        x.deliver(0);
        is("takes nothing back", x.committedOf(1) + " " + x.valueOf(1, 0), "2 5");
    }

    @Says(in = "Terms 3", value = "and it sends back a yes (6) with its term and the index of that last entry (or the"
            + " previous one).")
    static void yesesToEntries() {
        QuorumLog x = conflict();
        restart(x, 0);
        sendsTo(x, 1, 0);
        x.deliver(0);
        x.deliver(0);
        x.deliver(0);
        is("of the last one in it, with its own term", row(x), "6:0>1 t3 i4; ");
        QuorumLog y = settled(3);
        y.beat(0);
        put(y, 0, 0, 0, 1);
        y.beat(0);
        lastArrives(y, 5, 0, 1);
        arrives(y, 5, 0, 1);
        is("without one, of the previous one, not its last index", lastMessage(y), "6:1>0 t1 i1; ");
    }

    // ---- 6, an answer

    private static final String YES = "6, an answer to entries or a snapshot: if the receiver is a leader, and the term"
            + " is its own: at a yes, if the index is greater than matched, this is matched, and next is 1 greater than"
            + " that (otherwise both stay); then, at each yes, it looks what is committed, and if it is a leader yet,"
            + " and next is not greater than its last index, it sends to the sender again.";
    private static final String NO =
            "At a no, next is 1 greater than the index, or than matched, if that is greater; and it sends to the sender"
            + " again.";

    @Says(in = "Terms 3", value = YES)
    static void answersToNoLeaderOrOfAnElderTerm() {
        QuorumLog x = settled(3);
        put(x, 0, 0, 0, 1);
        sendsTo(x, 0, 1);
        x.deliver(0);
        x.twice(0);
        restart(x, 0, 2);
        String before = state(x, 0);
        x.deliver(0);
        is("to a follower", state(x, 0) + " " + x.committedOf(0) + " " + x.messages(), before + " 0 1");
        x.sound(0);
        arrives(x, 1, 0, 2);
        arrives(x, 2, 2, 0);
        arrives(x, 3, 0, 2);
        arrives(x, 4, 2, 0);
        is("leads in term 2", x.roleOf(0) + " " + x.termOf(0), "3 2");
        int messages = x.messages();
        arrives(x, 6, 1, 0);
        is("of term 1", x.matchedOf(0, 1) + " " + x.nextOf(0, 1), "0 3");
        is("sends nothing", x.messages(), messages - 1);
    }

    @Says(in = "Terms 3", value = YES)
    static void yesesUpToMatched() {
        QuorumLog x = settled(3);
        put(x, 0, 0, 0, 1);
        sendsTo(x, 0, 1);
        put(x, 1, 0, 0, 2);
        sendsTo(x, 0, 1);
        x.deliver(0);
        x.deliver(0);
        is("yeses", row(x), "6:1>0 t1 i2; 6:1>0 t1 i3; ");
        x.twice(1);
        x.deliver(1);
        is("greater than matched", x.matchedOf(0, 1) + " " + x.nextOf(0, 1), "3 4");
        is("next is greater than the last index, nothing is sent", x.messages(), 2);
        x.deliver(0);
        is("less than matched", x.matchedOf(0, 1) + " " + x.nextOf(0, 1), "3 4");
        x.deliver(0);
        is("as great as matched", x.matchedOf(0, 1) + " " + x.nextOf(0, 1), "3 4");
        is("nothing is sent", x.messages(), 0);
        QuorumLog y = settled(3);
        put(y, 0, 0, 0, 1);
        sendsTo(y, 0, 1);
        y.deliver(0);
        put(y, 1, 0, 0, 2);
        y.deliver(0);
        is("one greater than matched", y.matchedOf(0, 1) + " " + y.nextOf(0, 1), "2 3");
        is("next is the last index, it is sent", row(y), "5:0>1 t1 i3; ");
        is("committed with its own", y.committedOf(0), 2);
    }

    /** 13 entries, server 1 has joined with the last one and has nothing; three times these are under way to it. */
    private static QuorumLog farBehind() {
        QuorumLog x = alone();
        fill(x, 12);
        x.join(0, 1);
        x.beat(0);
        x.twice(0);
        x.twice(0);
        is("previous is 12", row(x), "5:0>1 t1 i13; 5:0>1 t1 i13; 5:0>1 t1 i13; ");
        return x;
    }

    @Says(in = "Terms 3", value = {YES, NO})
    static void noesAndOldYeses() {
        QuorumLog x = farBehind();
        x.deliver(0);
        x.twice(2);
        x.deliver(2);
        is("no, nothing there: next is 1", x.nextOf(0, 1) + " " + x.matchedOf(0, 1), "1 0");
        is("sends 1 to 4", lastMessage(x), "5:0>1 t1 i4; ");
        lastArrives(x, 5, 0, 1);
        x.twice(x.messages() - 1);
        x.deliver(x.messages() - 1);
        is("yes up to 4", x.nextOf(0, 1) + " " + x.matchedOf(0, 1), "5 4");
        x.lose(x.messages() - 1);
        is("left", row(x), "5:0>1 t1 i13; 5:0>1 t1 i13; 6:1>0 t1 i0; 6:1>0 t1 i4; ");
        x.deliver(2);
        is("an old no, less than matched", x.nextOf(0, 1) + " " + x.matchedOf(0, 1), "5 4");
        is("sends 5 to 8", lastMessage(x), "5:0>1 t1 i8; ");
        x.deliver(0);
        is("a no as great as matched", lastMessage(x), "6:1>0 t1 i4; ");
        x.deliver(x.messages() - 1);
        is("next", x.nextOf(0, 1) + " " + x.matchedOf(0, 1), "5 4");
        is("sends 5 to 8 again", lastMessage(x), "5:0>1 t1 i8; ");
        x.deliver(x.messages() - 1);
        x.lose(x.messages() - 1);
        x.deliver(0);
        is("a no greater than matched", lastMessage(x), "6:1>0 t1 i8; ");
        x.deliver(x.messages() - 1);
        is("next is behind it", x.nextOf(0, 1) + " " + x.matchedOf(0, 1), "9 4");
        is("sends 9 to 12", lastMessage(x), "5:0>1 t1 i12; ");
        x.deliver(find(x, 6, 1, 0));
        is("a yes as great as matched leaves both", x.nextOf(0, 1) + " " + x.matchedOf(0, 1), "9 4");
        is("but sends again", lastMessage(x), "5:0>1 t1 i12; ");
        is("twice", row(x).split("i12", -1).length - 1, 2);
    }

    @Says(in = "Terms 3", value = NO)
    static void noesWithNothingToSend() {
        QuorumLog x = settled(3);
        sendsTo(x, 0, 1);
        x.twice(0);
        restart(x, 0, 1);
        x.sound(0);
        arrives(x, 1, 0, 1);
        arrives(x, 2, 1, 0);
        arrives(x, 3, 0, 1);
        arrives(x, 4, 1, 0);
        lastArrives(x, 5, 0, 1);
        arrives(x, 6, 1, 0);
        is("matched in term 2", x.matchedOf(0, 1) + " " + x.nextOf(0, 1), "2 3");
        loseAllBut(x, 5, 0, 1);
        is("entries of term 1", row(x), "5:0>1 t1 i1; ");
        x.deliver(0);
        is("a no with the index 0", row(x), "6:1>0 t2 i0; ");
        x.deliver(0);
        is("matched is greater", x.matchedOf(0, 1) + " " + x.nextOf(0, 1), "2 3");
        is("it sends, though next is greater than the last index", row(x), "5:0>1 t2 i2; ");
    }

    @Says(in = "Terms 3", value = YES)
    static void whoIsNoLeaderThenSendsNoMore() {
        QuorumLog x = settled(3);
        x.leave(0, 0);
        x.beat(0);
        arrives(x, 5, 0, 1);
        put(x, 0, 0, 0, 7);
        arrives(x, 6, 1, 0);
        is("a leader yet, sends the next one", find(x, 5, 0, 1) >= 0, true);
        arrives(x, 5, 0, 2);
        arrives(x, 6, 2, 0);
        is("a follower then", x.roleOf(0) + " " + x.lastOf(0), "0 3");
        is("sends nothing", find(x, 5, 0, 2), -1);
    }

    // ---- 7, a snapshot

    @Says(in = "Terms 3", value = "7, a snapshot: if the term is less than its own, as with 5.")
    static void snapshotsOfAnElderTerm() {
        QuorumLog x = snapshotForTwo();
        x.handOver(0, 1);
        arrives(x, 8, 0, 1);
        arrives(x, 3, 1, 2);
        is("2 has term 2", state(x, 2), "role 0 term 2 voted 1 follows -1 waited 0");
        arrives(x, 7, 0, 2);
        is("a no", lastMessage(x), "6:2>0 t2 i0; ");
        is("is not taken", x.snapshotOf(2) + " " + x.lastOf(2), "0 1");
        is("is not followed", state(x, 2), "role 0 term 2 voted 1 follows -1 waited 0");
        QuorumLog y = snapshotForTwo();
        restart(y, 0, 2);
        y.sound(0);
        arrives(y, 1, 0, 2);
        arrives(y, 2, 2, 0);
        arrives(y, 3, 0, 2);
        arrives(y, 4, 2, 0);
        is("leads again, in term 2", y.roleOf(0) + " " + y.termOf(0) + " " + y.nextOf(0, 2), "3 2 3");
        loseAllBut(y, 7, 0, 2);
        is("the snapshot of term 1", row(y), "7:0>2 t1 i2; ");
        y.deliver(0);
        is("a no with the index 0", row(y), "6:2>0 t2 i0; ");
        y.deliver(0);
        is("as a no it makes next less", y.nextOf(0, 2) + " " + row(y), "1 7:0>2 t2 i2; ");
    }

    /** A snapshot up to 2 is under way to server 2, which has only 1. */
    private static QuorumLog snapshotForTwo() {
        QuorumLog x = settled(3);
        put(x, 0, 0, 3, 5);
        sendsTo(x, 0, 1);
        x.deliver(0);
        x.deliver(0);
        x.shorten(0);
        sendsTo(x, 0, 2);
        is("a snapshot", row(x), "7:0>2 t1 i2; ");
        return x;
    }

    @Says(in = "Terms 3", value = "Otherwise it is a follower, follows the sender, and has waited 0 rounds.")
    static void snapshotsMakeFollowers() {
        QuorumLog x = snapshotForTwo();
        x.sound(2);
        is("a sounder", state(x, 2), "role 1 term 1 voted 0 follows -1 waited 0");
        arrives(x, 7, 0, 2);
        is("follows", state(x, 2), "role 0 term 1 voted 0 follows 0 waited 0");
        QuorumLog y = snapshotForTwo();
        is("has waited", y.waitedOf(2), 1);
        arrives(y, 7, 0, 2);
        is("waits anew", y.waitedOf(2), 0);
        QuorumLog z = settled(3);
        leadsAnew(z, 0, 1);
        sendsTo(z, 0, 1);
        z.deliver(0);
        z.deliver(0);
        z.shorten(0);
        sendsTo(z, 0, 2);
        is("a snapshot of term 2 to one of term 1", row(z) + z.termOf(2), "7:0>2 t2 i2; 1");
        z.deliver(0);
        is("is followed in term 2", state(z, 2), "role 0 term 2 voted -1 follows 0 waited 0");
        is("and taken", z.snapshotOf(2) + " " + row(z), "2 6:2>0 t2 i2; ");
    }

    private static final String IF_GREATER = "If the index of the snapshot is greater than how far it has committed, this"
            + " is its snapshot, it has committed and applied so far, its table is that of it, and of its log only the"
            + " entries behind this index are kept, if it had one with this index and the term of the snapshot,"
            + " otherwise none.";
    private static final String YES_TO_A_SNAPSHOT = "It sends back a yes (6) with its term and the index of the snapshot.";

    @Says(in = "Terms 3", value = {IF_GREATER, YES_TO_A_SNAPSHOT})
    static void snapshotsUpToWhatIsCommitted() {
        for (int committed = 1; committed <= 3; committed++) {
            QuorumLog x = settled(3);
            put(x, 0, 0, 3, 5);
            sendsTo(x, 0, 2);
            sendsTo(x, 0, 1);
            arrives(x, 5, 0, 1);
            arrives(x, 6, 1, 0);
            x.shorten(0);
            sendsTo(x, 0, 2);
            is("entries and a snapshot", row(x), "5:0>2 t1 i2; 7:0>2 t1 i2; ");
            if (committed > 1) {
                arrives(x, 5, 0, 2);
                arrives(x, 6, 2, 0);
                if (committed > 2) {
                    put(x, 1, 0, 3, 6);
                    x.beat(0);
                    arrives(x, 5, 0, 1);
                    arrives(x, 6, 1, 0);
                    loseAllBut(x, 7, 0, 2);
                }
                sendsTo(x, 0, 2);
                arrives(x, 5, 0, 2);
            }
            is("committed", x.committedOf(2), committed);
            loseAllBut(x, 7, 0, 2);
            x.deliver(0);
            is("taken with " + committed, x.snapshotOf(2), committed < 2 ? 2 : 0);
            is("last", x.lastOf(2), Math.max(2, committed));
            is("committed then", x.committedOf(2), Math.max(2, committed));
            is("table", x.valueOf(2, 3), committed < 3 ? 5 : 6);
            is("a yes with its index", row(x), "6:2>0 t1 i2; ");
            x.deliver(0);
            is("as a yes", x.matchedOf(0, 2), 2);
        }
    }

    @Says(in = "Terms 3", value = IF_GREATER)
    static void snapshotsKeepWhatIsBehindAnEntryOfThem() {
        for (int last = 2; last <= 5; last++) {
            QuorumLog x = settled(3);
            if (last % 2 == 1) {
                x.shorten(2);
            }
            for (int index = 2; index <= 5; index++) {
                put(x, index - 2, 0, 3, index);
                if (index == last) {
                    sendsTo(x, 0, 2);
                    lastArrives(x, 5, 0, 2);
                    x.lose(x.messages() - 1);
                }
                if (index == 3) {
                    sendsTo(x, 0, 1);
                    lastArrives(x, 5, 0, 1);
                }
            }
            arrives(x, 6, 1, 0);
            x.shorten(0);
            loseAll(x);
            sendsTo(x, 0, 2);
            is("a snapshot up to 3", row(x), "7:0>2 t1 i3; ");
            is("has", x.lastOf(2) + " " + x.committedOf(2), last + " 1");
            x.deliver(0);
            is("having " + last, x.snapshotOf(2) + " " + x.lastOf(2) + " " + x.committedOf(2),
                    "3 " + Math.max(3, last) + " 3");
            for (int index = 4; index <= last; index++) {
                is("value at " + index, x.valueAt(2, index), index);
            }
            is("table", x.valueOf(2, 3), 3);
        }
    }

    @Says(in = "Terms 3", value = IF_GREATER)
    static void snapshotsKeepNothingBehindAnEntryOfAnotherTerm() {
        QuorumLog x = conflict();
        x.cut(0, 1);
        x.beat(1);
        x.lose(0);
        deliverAllBut(x, 0);
        is("committed", x.committedOf(1), 5);
        x.mend(0, 1);
        x.shorten(1);
        sendsTo(x, 1, 0);
        is("a snapshot up to 5, of term 3", row(x), "7:1>0 t3 i5; ");
        is("0 has 5 of term 1, and 6", x.lastOf(0) + " " + x.termAt(0, 5), "6 1");
        x.deliver(0);
        is("none is kept", x.snapshotOf(0) + " " + x.lastOf(0) + " " + x.lastTermOf(0), "5 5 3");
    }

    // ---- 8, a hurry

    private static final String HURRY = "8, a hurry: if the term is its own, and the receiver is no leader, is among the"
            + " members that it sees, and has less than 48 entries in its log, it stands for election.";

    @Says(in = "Terms 3", value = HURRY)
    static void hurriesOfAnElderTerm() {
        QuorumLog x = settled(3);
        x.handOver(0, 1);
        x.handOver(0, 1);
        x.deliver(0);
        is("stands", x.roleOf(1) + " " + x.termOf(1), "2 2");
        arrives(x, 8, 0, 1);
        is("stands no more in term 2", x.roleOf(1) + " " + x.termOf(1), "2 2");
        QuorumLog y = settled(3);
        y.handOver(0, 1);
        y.handOver(0, 1);
        y.deliver(0);
        arrives(y, 3, 1, 2);
        arrives(y, 4, 2, 1);
        arrives(y, 8, 0, 1);
        is("a leader of term 2 leads on", y.roleOf(1) + " " + y.termOf(1), "3 2");
        QuorumLog z = settled(3);
        z.sound(2);
        z.handOver(0, 2);
        arrives(z, 8, 0, 2);
        is("a sounder of the same term stands", z.roleOf(2) + " " + z.termOf(2), "2 2");
        QuorumLog w = settled(3);
        w.handOver(0, 2);
        restart(w, 2);
        arrives(w, 8, 0, 2);
        is("one that follows nobody, too", w.roleOf(2) + " " + w.termOf(2), "2 2");
    }

    @Says(in = "Terms 3", value = HURRY)
    static void hurriesToNoMember() {
        QuorumLog x = settled(3);
        x.handOver(0, 2);
        sendsTo(x, 0, 2);
        arrives(x, 5, 0, 2);
        x.leave(0, 2);
        x.twice(0);
        arrives(x, 6, 2, 0);
        is("its leaving is sent to it", lastMessage(x), "5:0>2 t1 i2; ");
        x.twice(0);
        arrives(x, 5, 0, 2);
        is("it is no member for itself", x.sees(2, 2), false);
        arrives(x, 8, 0, 2);
        is("does not stand", x.roleOf(2) + " " + x.termOf(2), "0 1");
        QuorumLog y = settled(3);
        y.handOver(0, 2);
        y.leave(0, 2);
        arrives(y, 8, 0, 2);
        is("as long as it has not got that, it stands", y.roleOf(2) + " " + y.termOf(2), "2 2");
    }

    @Says(in = "Terms 3", value = HURRY)
    static void hurriesWith48Entries() {
        for (int entries = 46; entries <= 50; entries++) {
            QuorumLog x = longLogs(entries);
            x.handOver(0, 1);
            x.deliver(x.messages() - 1);
            is("with " + entries, x.roleOf(1) + " " + x.termOf(1) + " " + x.follows(1), entries < 48 ? "2 2 -1" : "0 1 0");
        }
        QuorumLog y = longLogs(50);
        y.shorten(1);
        y.handOver(0, 1);
        y.deliver(y.messages() - 1);
        is("shortened", y.roleOf(1), 2);
    }
}
