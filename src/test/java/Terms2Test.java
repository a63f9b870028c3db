import java.util.Arrays;

/** The sentences of section 2 of "Terms", messages and rounds, that name a boundary case. */
public final class Terms2Test extends Checks {
    private static final String SIXTY =
            "Messages under way are a row; sending puts one at its end, but if there are 60, it is lost.";
    private static final String BEATS =
            "A leader: each second time since it began to lead, it sends to each other member that it sees, by numbers"
            + " (its beat).";
    private static final String WHICH_BEATS = "(So at the 2nd, the 4th of these steps behind the one in which, or"
            + " behind which, it began to lead; beat() does not count.)";

    public static void main(String[] args) throws Exception {
        playAllThatSay(Terms2Test.class);
    }

    // ---- the row

    @Says(in = "Terms 2", value = SIXTY)
    static void roomForSixtySounds() {
        QuorumLog x = founded(7);
        for (int i = 1; i <= 10; i++) {
            x.sound(0);
            is("under way", x.messages(), 6 * i);
        }
        is("60 are not too many", x.lost(), 0);
        x.lose(0);
        x.sound(1);
        is("one has room, at the end", lastMessage(x), "1:1>0 t1 i0; ");
        is("60", x.messages(), 60);
        is("five have not", x.lost(), 1 + 5);
        String row = row(x);
        is("who sends is a sounder", x.sound(2), 1);
        is("none has", x.lost(), 6 + 6);
        is("nothing is moved", row(x), row);
    }

    @Says(in = "Terms 2", value = SIXTY)
    static void roomForSixtyWithCalls() {
        QuorumLog x = settled(3);
        x.handOver(0, 1);
        crowd(x, 60);
        is("a hurry arrives", x.deliver(0), true);
        is("the call to 0 has the room of the hurry", lastMessage(x), "3:1>0 t2 i1; ");
        is("60", x.messages(), 60);
        is("the call to 2 is lost", x.lost(), 1);
        is("it stands yet", x.roleOf(1), 2);
        QuorumLog y = settled(3);
        y.handOver(0, 1);
        crowd(y, 59);
        y.deliver(0);
        is("at 58, both have room", rowFrom(y, 58), "3:1>0 t2 i1; 3:1>2 t2 i1; ");
        is("none is lost", y.lost(), 0);
    }

    @Says(in = "Terms 2", value = SIXTY)
    static void roomForSixtyWithEntries() {
        QuorumLog x = settled(3);
        put(x, 0, 0, 0, 1);
        x.beat(0);
        crowd(x, 60);
        is("sends to two, though both are lost", x.beat(0), 2);
        is("both are lost", x.lost(), 2);
        is("60", x.messages(), 60);
        is("next stays", x.nextOf(0, 1), 2);
        x.lose(59);
        x.beat(0);
        is("one has room", lastMessage(x), "5:0>1 t1 i2; ");
        is("one is lost", x.lost(), 4);
        x.deliver(0);
        is("an answer has the room of the entries", lastMessage(x), "6:1>0 t1 i2; ");
        x.deliver(59);
        is("nothing is to be sent then", x.messages(), 59);
    }

    @Says(in = "Terms 2", value = SIXTY)
    static void roomForSixtyWhenLeading() {
        QuorumLog x = founded(3);
        x.sound(0);
        arrives(x, 1, 0, 1);
        arrives(x, 2, 1, 0);
        arrives(x, 3, 0, 1);
        is("the vote", lastMessage(x), "4:1>0 t1 i1; ");
        crowd(x, 60);
        arrives(x, 4, 1, 0);
        is("leads", x.roleOf(0), 3);
        is("the entries for 1 have the room of the vote", lastMessage(x), "5:0>1 t1 i1; ");
        is("those for 2 are lost", x.lost(), 1);
        is("next of 2", x.nextOf(0, 2), 1);
    }

    /** Next of server 2 is 2, and the snapshot of server 0 goes up to 2, of 3 entries. */
    private static QuorumLog behind() {
        QuorumLog x = settled(3);
        isolate(x, 2);
        put(x, 0, 0, 1, 7);
        x.pass(4);
        x.shorten(0);
        put(x, 1, 0, 1, 8);
        rejoin(x, 2);
        loseAll(x);
        return x;
    }

    @Says(in = "Terms 2", value = SIXTY)
    static void roomForSixtyWithSnapshots() {
        QuorumLog x = behind();
        x.beat(0);
        is("entries and a snapshot", row(x), "5:0>1 t1 i3; 7:0>2 t1 i2; ");
        int lost = x.lost();
        crowd(x, 59);
        x.beat(0);
        is("the entries have room", lastMessage(x), "5:0>1 t1 i3; ");
        is("the snapshot is lost", x.lost(), lost + 1);
        is("60", x.messages(), 60);
        x.deliver(1);
        is("the answer has the room of the snapshot", lastMessage(x), "6:2>0 t1 i2; ");
        x.deliver(59);
        is("the next entries have the room of the answer", lastMessage(x), "5:0>2 t1 i3; ");
        is("60", x.messages(), 60);
        is("nothing more is lost", x.lost(), lost + 1);
    }

    @Says(in = "Terms 2", value = SIXTY)
    static void roomForSixtyWithHurries() {
        QuorumLog x = settled(3);
        for (int i = 1; i <= 60; i++) {
            is("under way", x.handOver(0, 1 + i % 2), i);
        }
        is("none is lost", x.lost(), 0);
        is("not 61", x.handOver(0, 1), 60);
        is("it is lost", x.lost(), 1);
        is("the last one is not it", lastMessage(x), "8:0>1 t1 i0; ");
    }

    @Says(in = "Terms 2", value = SIXTY)
    static void roomForSixtyReplies() {
        QuorumLog x = founded(3);
        x.sound(0);
        crowd(x, 60);
        x.deliver(0);
        is("a reply has the room of the sound", lastMessage(x), "2:1>0 t1 i1; ");
        is("60", x.messages(), 60);
        is("the reply is the last one handled, and gives two calls, of which one has room", x.pass(1), 1);
        is("60", x.messages(), 60);
        is("the call", lastMessage(x), "3:0>1 t1 i0; ");
    }

    @Says(in = "Terms 2", value = "If one is handled, it is taken out of the row; it arrives if its receiver is up and"
            + " the link between both is whole, otherwise it is lost.")
    static void handledMessages() {
        for (int broken = 0; broken < 4; broken++) {
            QuorumLog x = founded(3);
            x.sound(0);
            x.sound(2);
            x.fail(2);
            x.cut(0, 2);
            x.cut(1, 2);
            if (broken % 2 == 1) {
                x.fail(1);
            }
            if (broken / 2 == 1) {
                x.cut(0, 1);
            }
            is("arrives, broken " + broken, x.deliver(0), broken == 0);
            is("lost, broken " + broken, x.lost(), broken == 0 ? 0 : 1);
            is("row, broken " + broken, row(x),
                    "1:0>2 t1 i0; 1:2>0 t1 i0; 1:2>1 t1 i0; " + (broken == 0 ? "2:1>0 t1 i1; " : ""));
        }
        QuorumLog y = founded(3);
        y.sound(0);
        y.fail(0);
        is("its sender need not be up", y.deliver(0), true);
        is("back it is lost", y.deliver(1), false);
        is("lost", y.lost(), 1);
        y.recover(0);
        is("by then it is up", y.deliver(0), true);
        QuorumLog z = founded(3);
        z.sound(0);
        z.cut(0, 1);
        z.mend(0, 1);
        is("the link is looked at as it is handled", z.deliver(0), true);
        is("from the middle", z.messages(), 2);
        z.deliver(1);
        is("the others stay in order", row(z), "1:0>2 t1 i0; 3:0>1 t1 i0; 3:0>2 t1 i0; ");
    }

    @Says(in = "Terms 2", value = "What arrives is carried out at once.")
    static void carriedOutAtOnce() {
        QuorumLog x = settled(3);
        x.handOver(0, 1);
        is("round", x.round(), 14);
        x.deliver(0);
        is("stands", x.roleOf(1), 2);
        is("the row has the calls", row(x), "3:1>0 t2 i1; 3:1>2 t2 i1; ");
        is("no round has gone by", x.round(), 14);
    }

    @Says(in = "Terms 2", value = "Each has a kind, a sender, a receiver, a term, and what section 3 says.")
    static void whatMessagesHave() {
        QuorumLog x = behind();
        x.beat(0);
        is("entries, a snapshot", row(x), "5:0>1 t1 i3; 7:0>2 t1 i2; ");
        x.sound(1);
        is("sounds", rowFrom(x, 2), "1:1>0 t2 i2; 1:1>2 t2 i2; ");
        // They are as they were sent, whatever becomes of the sender.
        x.fail(0);
        x.fail(1);
        x.deliver(1);
        is("the snapshot's table", x.valueOf(2, 1), 7);
        x.recover(1);
        x.deliver(0);
        is("the entries", x.lastOf(1) + " " + x.valueAt(1, 3), "3 8");
    }

    // ---- the first step of a round

    @Says(in = "Terms 2", value = "Each server that is up, by numbers.")
    static void firstStepByNumbers() {
        QuorumLog x = founded(7);
        x.fail(0);
        x.pass(1);
        x.recover(0);
        x.fail(4);
        x.pass(5);
        is("nobody has waited enough", row(x), "");
        x.pass(1);
        is("0 and 5 sound in round 7, 0 first", row(x),
                "2:1>0 t1 i1; 2:2>0 t1 i1; 2:3>0 t1 i1; 2:5>0 t1 i1; 2:6>0 t1 i1; "
                + "2:0>5 t1 i1; 2:1>5 t1 i1; 2:2>5 t1 i1; 2:3>5 t1 i1; 2:6>5 t1 i1; ");
        is("one that is down does nothing", x.waitedOf(4), 0);
        is("what is sent to it is lost", x.lost(), 2);
    }

    /** Server 0 leads, all it sends is lost, and nothing is under way; how many are lost in each of some rounds. */
    private static String lostByRounds(QuorumLog x) {
        isolate(x, 0);
        loseAll(x);
        int[] lost = new int[4];
        for (int i = 0; i < lost.length; i++) {
            lost[i] = x.pass(1);
        }
        return Arrays.toString(lost);
    }

    @Says(in = "Terms 2", value = {BEATS, WHICH_BEATS})
    static void beatsBehindTheStepInWhichItBeganToLead() {
        QuorumLog x = founded(1);
        x.pass(5);
        is("not yet", x.roleOf(0), 0);
        x.pass(1);
        is("leads in the first step of round 6", x.roleOf(0), 3);
        x.join(0, 1);
        is("one message at the 2nd, 4th", lostByRounds(x), "[0, 1, 0, 1]");
    }

    @Says(in = "Terms 2", value = {BEATS, WHICH_BEATS})
    static void beatsBehindTheStepBehindWhichItBeganToLead() {
        QuorumLog x = founded(3);
        x.pass(9);
        is("leads in the second step of round 9", x.roleOf(0), 3);
        is("two messages at the 2nd, 4th", lostByRounds(x), "[0, 2, 0, 2]");
        QuorumLog y = alone();
        y.join(0, 1);
        is("between two rounds", lostByRounds(y), "[0, 1, 0, 1]");
        QuorumLog z = settled(7);
        z.leave(0, 3);
        is("not to itself, and to members only", lostByRounds(z), "[5, 0, 5, 0]");
    }

    @Says(in = "Terms 2", value = WHICH_BEATS)
    static void beatDoesNotCount() {
        QuorumLog x = founded(3);
        x.pass(9);
        x.beat(0);
        is("once ahead of the first step", lostByRounds(x), "[0, 2, 0, 2]");
        QuorumLog y = alone();
        y.join(0, 1);
        isolate(y, 0);
        y.pass(1);
        y.beat(0);
        loseAll(y);
        is("once behind the first step", y.pass(1), 1);
        y.beat(0);
        loseAll(y);
        is("once behind the second step", y.pass(1), 0);
    }

    @Says(in = "Terms 2", value = BEATS)
    static void beatsSinceItBeganToLeadAgain() {
        for (int steps = 1; steps <= 2; steps++) {
            QuorumLog x = alone();
            x.pass(steps);
            x.fail(0);
            x.recover(0);
            x.sound(0);
            x.join(0, 1);
            is("led " + steps + " steps before", lostByRounds(x), "[0, 1, 0, 1]");
        }
    }

    @Says(in = "Terms 2", value = "Any other one, if it is among the members that it sees: it has waited one round"
            + " more;")
    static void waitsARoundMore() {
        QuorumLog x = founded(3);
        x.sound(0);
        x.sound(1);
        arrives(x, 1, 1, 2);
        arrives(x, 2, 2, 1);
        loseAll(x);
        x.fail(5);
        for (int i = 1; i <= 5; i++) {
            x.pass(1);
            loseAll(x);
            is("a sounder waits", x.roleOf(0) == 1 ? x.waitedOf(0) : -1, i);
            is("a candidate waits", x.roleOf(1) == 2 ? x.waitedOf(1) : -1, i);
            is("a follower waits", x.waitedOf(2), i);
            is("no member does not", x.waitedOf(3), 0);
            is("one that is down does not", x.waitedOf(5), 0);
        }
        QuorumLog y = settled(3);
        is("it waited two rounds as a candidate", y.waitedOf(0), 2);
        y.pass(30);
        is("a leader does not", y.waitedOf(0), 2);
        y.join(0, 3);
        is("who joins does not without the entry", y.waitedOf(3), 0);
        y.pass(6);
        is("and does with it", y.waitedOf(3) + y.waitedOf(2) > 0, true);
        y.leave(0, 0);
        y.pass(8);
        is("the leader that left", y.roleOf(0), 0);
        is("does not wait", y.waitedOf(0), 2);
    }

    @Says(in = "Terms 2", value = "if it has waited as many as its patience then, or more, it sounds.")
    static void soundsAsItHasWaitedItsPatience() {
        for (int s = 0; s < 7; s++) {
            QuorumLog x = founded(7);
            for (int other = 0; other < 7; other++) {
                if (other != s) {
                    x.fail(other);
                }
            }
            int patience = x.patienceOf(s);
            x.pass(patience - 1);
            is("one less than patience of " + s, x.roleOf(s) + " " + x.waitedOf(s), "0 " + (patience - 1));
            is("six sounds are lost", x.pass(1), 6);
            is("as many as patience of " + s, x.roleOf(s) + " " + x.waitedOf(s), "1 0");
            x.pass(patience - 1);
            is("again, one less", x.lost(), 6);
            x.pass(1);
            is("again, as many", x.lost(), 12);
        }
    }

    /** The patience of server 4 is 9 in term 1, and 7 in term 2, which it gets as it has waited 8 rounds. */
    @Says(in = "Terms 2", value = "if it has waited as many as its patience then, or more, it sounds.")
    static void soundsAsItHasWaitedMoreThanItsPatience() {
        QuorumLog x = settled(5);
        put(x, 0, 0, 0, 1);
        x.beat(0);
        arrives(x, 5, 0, 4);
        loseAll(x);
        for (int s = 0; s < 4; s++) {
            x.fail(s);
        }
        x.pass(8);
        is("has waited less than its patience", x.waitedOf(4) + " " + x.patienceOf(4), "8 9");
        for (int s = 1; s < 4; s++) {
            x.recover(s);
        }
        x.sound(1);
        arrives(x, 1, 1, 2);
        arrives(x, 1, 1, 3);
        arrives(x, 2, 2, 1);
        arrives(x, 2, 3, 1);
        arrives(x, 3, 1, 4);
        is("refuses, as its log is longer", lastMessage(x), "4:4>1 t2 i0; ");
        is("has waited more than its patience", x.waitedOf(4) + " " + x.patienceOf(4), "8 7");
        is("and sounds in the next round only", x.roleOf(4), 0);
        loseAll(x);
        x.pass(1);
        is("sounds", x.roleOf(4) + " " + x.waitedOf(4), "1 0");
    }

    @Says(in = "Terms 2", value = "The patience of a server is 6 + (3 * its number + 5 * its term) % 7.")
    static void patience() {
        QuorumLog x = settled(7);
        for (int term = 1; term <= 15; term++) {
            for (int s = 0; s < 7; s++) {
                is("term of " + s, x.termOf(s), term);
                is("patience of " + s + " in term " + term, x.patienceOf(s), 6 + (3 * s + 5 * term) % 7);
            }
            int next = (x.leader() + 1) % 7;
            x.handOver(x.leader(), next);
            deliverAllBut(x, 0);
            is("leads", x.leader(), next);
            x.beat(next);
            deliverAllBut(x, 0);
        }
        for (int s = 0; s < 7; s++) {
            is("patience in term 0", new QuorumLog().patienceOf(s), 6 + 3 * s % 7);
        }
    }

    // ---- the other steps

    @Says(in = "Terms 2", value = "As many messages as are under way then are handled, each time the first one.")
    static void handlesAsManyAsAreUnderWay() {
        QuorumLog x = settled(3);
        is("none", row(x), "");
        x.pass(1);
        is("the beat is handled, the answers to it are not", row(x), "6:1>0 t1 i1; 6:2>0 t1 i1; ");
        put(x, 0, 0, 0, 1);
        x.pass(1);
        is("the answers are, what comes of them is not", row(x), "5:0>1 t1 i2; 5:0>2 t1 i2; ");
        x.fail(1);
        x.pass(1);
        is("one to be lost counts as one; then the beat's", row(x), "6:2>0 t1 i2; 6:2>0 t1 i2; ");
        is("lost", x.lost(), 2);
        QuorumLog y = founded(3);
        y.sound(0);
        y.sound(1);
        y.pass(1);
        is("the first one first", row(y), "2:1>0 t1 i1; 2:2>0 t1 i1; 2:0>1 t1 i1; 2:2>1 t1 i1; ");
        QuorumLog z = founded(3);
        z.sound(0);
        crowd(z, 60);
        is("lost of 60", z.pass(1), 0);
        is("60 replies", z.messages(), 60);
        is("the first of them gives two calls, one has its room", z.pass(1), 1);
        is("all of them are handled, the call is not", row(z), "3:0>1 t1 i0; ");
        is("rounds with nothing under way", new QuorumLog().pass(5), 0);
    }

    @Says(in = "Terms 2", value = "The round is 1 greater.")
    static void theRoundIsGreater() {
        QuorumLog x = new QuorumLog();
        for (int i = 1; i <= 40; i++) {
            x.pass(1);
            is("round", x.round(), i);
        }
        x.pass(30);
        is("round", x.round(), 70);
        x.sound(1);
        x.deliver(0);
        is("only rounds count", x.round(), 70);
    }
}
