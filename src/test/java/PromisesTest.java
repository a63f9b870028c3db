import java.util.function.Supplier;

/** For each promise of the document: ordinary inputs, the edges that it names, and wrong inputs. */
public final class PromisesTest extends Checks {

    public static void main(String[] args) throws Exception {
        for (int i = 1; i <= 67; i++) {
            String name = "promise" + i;
            play(name, PromisesTest.class.getDeclaredMethod(name));
        }
        end("all promises hold");
    }

    // ---- the promises

    static void promise1() {
        QuorumLog x = new QuorumLog();
        is("round", x.round(), 0);
        is("lost", x.lost(), 0);
        is("messages", x.messages(), 0);
        is("leader", x.leader(), -1);
        for (int s = 0; s < 7; s++) {
            is("isUp", x.isUp(s), true);
            is("members", x.membersOf(s), 3);
            is("sees 2", x.sees(s, 2), true);
            is("sees 3", x.sees(s, 3), false);
            is("role", x.roleOf(s), 0);
            is("term", x.termOf(s), 0);
            is("voted", x.votedFor(s), -1);
            is("follows", x.follows(s), -1);
            is("waited", x.waitedOf(s), 0);
            is("last", x.lastOf(s), 0);
            is("last term", x.lastTermOf(s), 0);
            is("snapshot", x.snapshotOf(s), 0);
            is("committed", x.committedOf(s), 0);
            for (int k = 0; k < 8; k++) {
                is("value", x.valueOf(s, k), 0);
            }
        }
        is("same as founded with 3", x.digest(), founded(3).digest());
    }

    static void promise2() {
        int[] most = {0, 1, 2, 2, 3, 3, 4, 4};
        QuorumLog x = new QuorumLog();
        for (int members = 1; members <= 7; members++) {
            is("found", x.found(members), most[members]);
            is("members", x.membersOf(6), members);
            is("sees the last", x.sees(0, members - 1), true);
            is("sees one more", members < 7 && x.sees(0, members), false);
        }
        x = settled(3);
        put(x, 0, 0, 0, 5);
        x.cut(1, 2);
        x.pass(9);
        x.fail(6);
        x.sound(1);
        is("cleared", x.found(4), 3);
        is("begins anew", x.digest(), founded(4).digest());
        is("links are whole", x.cut(1, 2), 1);
        is("no request", x.askPut(0, 0, 0), 1);
        QuorumLog y = settled(3);
        refused(y, ARGUMENT, "found(0)", () -> y.found(0));
        refused(y, ARGUMENT, "found(8)", () -> y.found(8));
        refused(y, ARGUMENT, "found(-1)", () -> y.found(-1));
        refused(y, ARGUMENT, "found(least)", () -> y.found(Integer.MIN_VALUE));
    }

    static void promise3() {
        QuorumLog x = settled(3);
        put(x, 0, 0, 2, 9);
        x.pass(4);
        is("value before", x.valueOf(1, 2), 9);
        is("waited before", x.waitedOf(1), 1);
        is("fail", x.fail(1), 6);
        is("up", x.isUp(1), false);
        is("follows", x.follows(1), -1);
        is("waited", x.waitedOf(1), 0);
        is("committed as its snapshot", x.committedOf(1), 0);
        is("table of its snapshot", x.valueOf(1, 2), 0);
        is("applied serial of its snapshot", x.appliedSerial(1, 0), 0);
        is("keeps its log", x.lastOf(1), 2);
        is("keeps its term", x.termOf(1), 1);
        is("keeps its vote", x.votedFor(1), 0);
        is("a leader fails", x.fail(0), 5);
        is("role", x.roleOf(0), 0);
        refused(x, STATE, "fail again", () -> x.fail(1));
        for (int none : NO_SERVERS) {
            refused(x, INDEX, "fail none", () -> x.fail(none));
        }
    }

    static void promise4() {
        QuorumLog x = settled(3);
        put(x, 0, 0, 2, 9);
        x.pass(5);
        x.shorten(1);
        put(x, 1, 0, 3, 4);
        x.pass(5);
        is("value before", x.valueOf(1, 3), 4);
        x.fail(1);
        x.fail(5);
        is("recover", x.recover(1), 6);
        is("up", x.isUp(1), true);
        is("role", x.roleOf(1), 0);
        is("committed", x.committedOf(1), 2);
        is("value of the snapshot", x.valueOf(1, 2), 9);
        is("value behind it", x.valueOf(1, 3), 0);
        is("log", x.lastOf(1), 3);
        x.pass(2);
        is("applies again", x.valueOf(1, 3), 4);
        is("recover the other", x.recover(5), 7);
        refused(x, STATE, "recover again", () -> x.recover(1));
        for (int none : NO_SERVERS) {
            refused(x, INDEX, "recover none", () -> x.recover(none));
        }
    }

    static void promise5() {
        QuorumLog x = settled(3);
        is("cut", x.cut(0, 1), 1);
        is("cut another", x.cut(2, 0), 2);
        is("cut the last", x.cut(6, 5), 3);
        is("what is sent is lost", x.pass(2), 2);
        refused(x, STATE, "cut again", () -> x.cut(0, 1));
        refused(x, STATE, "cut again the other way", () -> x.cut(1, 0));
        refused(x, ARGUMENT, "cut from itself", () -> x.cut(3, 3));
        for (int none : NO_SERVERS) {
            refused(x, INDEX, "cut from none", () -> x.cut(0, none));
            refused(x, INDEX, "cut none", () -> x.cut(none, 0));
            refused(x, INDEX, "none from itself", () -> x.cut(none, none));
        }
    }

    static void promise6() {
        QuorumLog x = settled(3);
        x.cut(0, 1);
        x.cut(1, 2);
        is("mend the other way", x.mend(1, 0), 1);
        is("what is sent arrives", x.pass(2), 0);
        refused(x, STATE, "mend again", () -> x.mend(0, 1));
        refused(x, ARGUMENT, "mend with itself", () -> x.mend(2, 2));
        for (int none : NO_SERVERS) {
            refused(x, INDEX, "mend with none", () -> x.mend(1, none));
            refused(x, INDEX, "mend none", () -> x.mend(none, 2));
        }
        is("mend the last", x.mend(1, 2), 0);
        is("and cut again", x.cut(1, 2), 1);
    }

    static void promise7() {
        QuorumLog x = founded(3);
        is("pass 5", x.pass(5), 0);
        is("all wait", row(x), "");
        is("waited", x.waitedOf(2), 5);
        is("no members do not wait", x.waitedOf(3), 0);
        x.pass(1);
        is("0 sounds, and replies are under way", row(x), "2:1>0 t1 i1; 2:2>0 t1 i1; ");
        is("role 1", x.roleOf(0), 1);
        x.pass(1);
        is("0 stands", row(x), "3:0>1 t1 i0; 3:0>2 t1 i0; ");
        is("role 2", x.roleOf(0), 2);
        x.pass(1);
        is("votes", row(x), "4:1>0 t1 i1; 4:2>0 t1 i1; ");
        is("waited after the vote", x.waitedOf(1), 0);
        x.pass(1);
        is("0 leads", row(x), "5:0>1 t1 i1; 5:0>2 t1 i1; ");
        is("role 3", x.roleOf(0), 3);
        x.pass(1);
        is("no beat at the first step", row(x), "6:1>0 t1 i1; 6:2>0 t1 i1; ");
        x.pass(1);
        is("a beat at the second", row(x), "6:1>0 t1 i1; 6:2>0 t1 i1; ");
        is("committed by the leader", x.committedOf(0), 1);
        is("not yet by others", x.committedOf(1), 0);
        x.pass(1);
        is("none at the third", row(x), "");
        x.pass(1);
        is("a beat at the fourth", row(x), "6:1>0 t1 i1; 6:2>0 t1 i1; ");
        is("committed by others", x.committedOf(1), 1);
        is("round", x.round(), 13);
        x.pass(1);
        is("as settled", x.digest(), settled(3).digest());
        isolate(x, 0);
        is("lost in them", x.pass(2), 2);
        is("lost in these", x.pass(2), 2);
        is("30", founded(3).pass(30), 0);
        is("1", founded(3).pass(1), 0);
        for (int wrong : new int[] {0, 31, -1, Integer.MAX_VALUE, Integer.MIN_VALUE}) {
            refused(x, ARGUMENT, "pass wrong", () -> x.pass(wrong));
        }
        waitsWhileFollowing();
    }

    private static void waitsWhileFollowing() {
        QuorumLog x = settled(3);
        x.fail(0);
        // Patience in term 1: server 1 has 6 + 8 % 7 = 7, server 2 has 6 + 11 % 7 = 10.
        is("patience", x.patienceOf(1), 7);
        is("waited", x.waitedOf(1), 1);
        x.pass(5);
        is("no sound yet", x.roleOf(1), 0);
        x.pass(1);
        is("sounds", x.roleOf(1), 1);
        is("waits anew", x.waitedOf(1), 0);
        is("one of both sounds is lost", x.lost(), 1);
        x.pass(4);
        is("leads", x.roleOf(1), 3);
        is("term", x.termOf(1), 2);
    }

    static void promise8() {
        QuorumLog x = founded(3);
        is("sound", x.sound(1), 1);
        is("sent", row(x), "1:1>0 t1 i0; 1:1>2 t1 i0; ");
        is("alone", alone().roleOf(0), 3);
        is("alone, term", alone().termOf(0), 1);
        QuorumLog full = alone();
        fill(full, 40);
        for (int i = 40; i < 48; i++) {
            full.fail(0);
            full.recover(0);
            is("leads again", full.sound(0), 3);
        }
        is("48 entries", full.lastOf(0), 48);
        full.fail(0);
        full.recover(0);
        full.pass(4);
        is("has waited", full.waitedOf(0), 4);
        is("48 entries are too many", full.sound(0), 0);
        is("waits anew", full.waitedOf(0), 0);
        is("term stays", full.termOf(0), 9);
        QuorumLog y = settled(3);
        refused(y, STATE, "a leader sounds", () -> y.sound(0));
        refused(y, STATE, "no member sounds", () -> y.sound(3));
        y.fail(1);
        refused(y, STATE, "one that is down sounds", () -> y.sound(1));
        for (int none : NO_SERVERS) {
            refused(y, INDEX, "none sounds", () -> y.sound(none));
        }
        soundsAreAnswered();
    }

    /** Who follows a leader and has waited less than 4 rounds refuses; a log that is less good is refused. */
    private static void soundsAreAnswered() {
        QuorumLog x = settled(3);
        x.cut(0, 1);
        x.cut(0, 2);
        x.pass(2);
        is("waited 3", x.waitedOf(2), 3);
        x.sound(1);
        x.deliver(1);
        is("no, with its own term", row(x), "1:1>0 t2 i1; 2:2>1 t1 i0; ");
        x.lose(0);
        x.lose(0);
        x.pass(1);
        is("waited 4", x.waitedOf(2), 4);
        x.sound(1);
        x.deliver(1);
        is("yes, with the term of the sound", row(x), "1:1>0 t2 i1; 2:2>1 t2 i1; ");
        is("the term stays", x.termOf(2), 1);
        x.mend(0, 1);
        x.deliver(0);
        is("a leader says no", row(x), "2:2>1 t2 i1; 2:0>1 t1 i0; ");
        x.deliver(0);
        is("stands", x.roleOf(1), 2);
        QuorumLog y = settled(3);
        y.fail(2);
        put(y, 0, 0, 0, 1);
        y.pass(3);
        y.recover(2);
        y.lose(0);
        y.sound(2);
        y.fail(1);
        y.recover(1);
        is("a shorter log", row(y), "1:2>0 t2 i1; 1:2>1 t2 i1; ");
        y.deliver(1);
        is("is refused", y.tells(1), 0);
    }

    static void promise9() {
        QuorumLog x = settled(5);
        is("beat", x.beat(0), 4);
        is("sent", row(x), "5:0>1 t1 i1; 5:0>2 t1 i1; 5:0>3 t1 i1; 5:0>4 t1 i1; ");
        is("alone", alone().beat(0), 0);
        int beats = 1;
        while (x.messages() < 60) {
            x.beat(0);
            beats++;
        }
        is("15 times 4", beats, 15);
        is("to how many, though all are lost", x.beat(0), 4);
        is("lost", x.lost(), 4);
        QuorumLog y = settled(3);
        y.beat(0);
        y.pass(1);
        is("the next beat is in its time", row(y), "6:1>0 t1 i1; 6:2>0 t1 i1; 6:1>0 t1 i1; 6:2>0 t1 i1; ");
        y.beat(0);
        y.pass(1);
        is("a beat does not count", row(y), "6:1>0 t1 i1; 6:2>0 t1 i1; ");
        y.pass(1);
        is("the next but one", row(y), "6:1>0 t1 i1; 6:2>0 t1 i1; ");
        refused(y, STATE, "no leader", () -> y.beat(1));
        for (int none : NO_SERVERS) {
            refused(y, INDEX, "none", () -> y.beat(none));
        }
    }

    static void promise10() {
        QuorumLog x = settled(3);
        put(x, 0, 0, 1, 7);
        x.join(0, 3);
        x.pass(4);
        put(x, 1, 0, 1, 8);
        is("last", x.lastOf(0), 4);
        is("committed", x.committedOf(0), 3);
        is("shorten", x.shorten(0), 3);
        is("snapshot", x.snapshotOf(0), 3);
        is("last stays", x.lastOf(0), 4);
        is("its term", x.termAt(0, 3), 1);
        is("members of the snapshot", x.membersOf(0), 4);
        is("value of it", x.valueOf(0, 1), 7);
        refused(x, INDEX, "the entry is gone", () -> x.kindAt(0, 3));
        refused(x, STATE, "shorten again", () -> x.shorten(0));
        x.fail(0);
        is("table of the snapshot", x.valueOf(0, 1), 7);
        is("serial of the snapshot", x.appliedSerial(0, 0), 1);
        refused(x, STATE, "it is down", () -> x.shorten(0));
        for (int none : NO_SERVERS) {
            refused(x, INDEX, "none", () -> x.shorten(none));
        }
        QuorumLog y = alone();
        y.fail(0);
        y.recover(0);
        y.sound(0);
        is("two entries", y.shorten(0), 2);
        is("term of the last one applied", y.lastTermOf(0), 2);
        is("members of the elder snapshot", y.membersOf(0), 1);
        QuorumLog z = settled(2);
        z.join(0, 2);
        is("an entry of members not yet applied is not in the snapshot", z.shorten(0), 1);
        z.fail(0);
        z.recover(0);
        is("but in the log", z.membersOf(0), 3);
        snapshotsAreSent();
    }

    private static void snapshotsAreSent() {
        QuorumLog x = settled(3);
        isolate(x, 2);
        put(x, 0, 0, 1, 7);
        x.pass(4);
        x.shorten(0);
        put(x, 1, 0, 1, 8);
        rejoin(x, 2);
        loseAll(x);
        is("next", x.nextOf(0, 2), 2);
        x.beat(0);
        is("a snapshot for who is behind", row(x), "5:0>1 t1 i3; 7:0>2 t1 i2; ");
        x.deliver(1);
        is("snapshot taken", x.snapshotOf(2), 2);
        is("log is empty", x.lastOf(2), 2);
        is("committed", x.committedOf(2), 2);
        is("table", x.valueOf(2, 1), 7);
        is("answered", row(x), "5:0>1 t1 i3; 6:2>0 t1 i2; ");
        x.deliver(1);
        is("goes on with entries", row(x), "5:0>1 t1 i3; 5:0>2 t1 i3; ");
        is("matched", x.matchedOf(0, 2), 2);
        snapshotKeepsTheRest();
    }

    /** The snapshot arrives where the log goes further already, but is not committed so far. */
    private static void snapshotKeepsTheRest() {
        QuorumLog x = settled(3);
        for (int i = 0; i < 3; i++) {
            put(x, i, 0, i, 1 + i);
        }
        x.beat(0);
        x.deliver(0);
        put(x, 3, 0, 3, 4);
        x.beat(0);
        is("row", row(x), "5:0>2 t1 i4; 6:1>0 t1 i4; 5:0>1 t1 i5; 5:0>2 t1 i5; ");
        x.deliver(3);
        x.lose(x.messages() - 1);
        is("server 2 has 5 entries", x.lastOf(2), 5);
        is("and has committed one", x.committedOf(2), 1);
        x.deliver(1);
        is("shorten", x.shorten(0), 4);
        x.beat(0);
        is("a snapshot", x.kindOfMessage(x.messages() - 1), 7);
        x.twice(x.messages() - 1);
        x.deliver(x.messages() - 1);
        is("snapshot taken", x.snapshotOf(2), 4);
        is("the rest is kept", x.lastOf(2), 5);
        is("of the rest", x.valueAt(2, 5), 4);
        is("table", x.valueOf(2, 2), 3);
        is("not of the rest", x.valueOf(2, 3), 0);
        is("yes to the snapshot", x.tells(x.messages() - 1), 4);
        x.pass(5);
        is("goes on", x.committedOf(2), 5);
        is("table", x.valueOf(2, 3), 4);
        is("an old snapshot changes nothing more", x.snapshotOf(2), 4);
    }

    static void promise11() {
        QuorumLog x = settled(3);
        is("hand over", x.handOver(0, 2), 1);
        is("a hurry", row(x), "8:0>2 t1 i0; ");
        is("once more", x.handOver(0, 1), 2);
        x.deliver(0);
        is("stands", x.roleOf(2), 2);
        is("term", x.termOf(2), 2);
        is("calls", row(x), "8:0>1 t1 i0; 3:2>0 t2 i1; 3:2>1 t2 i1; ");
        x.lose(0);
        x.pass(3);
        is("leads", x.leader(), 2);
        is("the old one follows", x.follows(0), 2);
        QuorumLog y = settled(3);
        while (y.messages() < 60) {
            y.handOver(0, 1);
        }
        is("lost at 60", y.handOver(0, 1), 60);
        is("lost", y.lost(), 1);
        refused(y, STATE, "no leader", () -> y.handOver(1, 0));
        refused(y, STATE, "no member", () -> y.handOver(0, 3));
        refused(y, ARGUMENT, "both the same", () -> y.handOver(0, 0));
        refused(y, ARGUMENT, "both the same, no leader", () -> y.handOver(1, 1));
        put(y, 0, 0, 0, 0);
        refused(y, STATE, "matched is less than last", () -> y.handOver(0, 1));
        for (int none : NO_SERVERS) {
            refused(y, INDEX, "to none", () -> y.handOver(0, none));
            refused(y, INDEX, "by none", () -> y.handOver(none, 0));
            refused(y, INDEX, "none to none", () -> y.handOver(none, none));
        }
        QuorumLog z = settled(3);
        z.handOver(0, 1);
        z.handOver(0, 1);
        z.deliver(0);
        z.deliver(0);
        is("an old hurry is nothing", z.termOf(1), 2);
        hurryWithALongLog();
    }

    /** Server 1 never shortens its log; with 47 entries it stands for election, with 48 it does not. */
    private static void hurryWithALongLog() {
        for (int entries = 47; entries <= 48; entries++) {
            QuorumLog x = longLogs(entries);
            x.handOver(0, 1);
            x.deliver(x.messages() - 1);
            is("stands with " + entries, x.roleOf(1), entries < 48 ? 2 : 0);
            is("term with " + entries, x.termOf(1), entries < 48 ? 2 : 1);
        }
    }

    static void promise12() {
        QuorumLog x = settled(3);
        is("join", x.join(0, 5), 2);
        is("members", x.membersOf(0), 4);
        is("sees", x.sees(0, 5), true);
        is("kind", x.kindAt(0, 2), 4);
        is("how many", x.valueAt(0, 2), 4);
        is("next", x.nextOf(0, 5), 2);
        is("matched", x.matchedOf(0, 5), 0);
        is("not sent at once", x.messages(), 0);
        refused(x, STATE, "an entry of members is not committed", () -> x.join(0, 6));
        refused(x, STATE, "is a member", () -> x.join(0, 5));
        x.pass(6);
        is("committed", x.committedOf(0), 2);
        is("5 has it", x.lastOf(5), 2);
        is("5 sees itself", x.sees(5, 5), true);
        is("next join", x.join(0, 6), 3);
        refused(x, STATE, "itself", () -> x.join(0, 0));
        refused(x, STATE, "no leader", () -> x.join(1, 4));
        for (int none : NO_SERVERS) {
            refused(x, INDEX, "none joins", () -> x.join(0, none));
            refused(x, INDEX, "with none", () -> x.join(none, 5));
        }
        QuorumLog early = founded(3);
        early.pass(9);
        is("leads", early.roleOf(0), 3);
        refused(early, STATE, "nothing of its own term committed", () -> early.join(0, 3));
        QuorumLog single = alone();
        is("alone, it waits for the other", single.join(0, 6), 2);
        is("not committed", single.committedOf(0), 1);
        single.pass(6);
        is("committed then", single.committedOf(0), 2);
        QuorumLog full = alone();
        fill(full, 39);
        is("39 entries", full.join(0, 1), 40);
        full.pass(30);
        is("is committed", full.committedOf(0), 40);
        refused(full, STATE, "40 entries", () -> full.join(0, 2));
        full.shorten(0);
        is("shortened", full.join(0, 2), 41);
        joinsAgain();
    }

    private static void joinsAgain() {
        QuorumLog x = settled(3);
        x.leave(0, 2);
        x.pass(4);
        is("matched of old", x.matchedOf(0, 2), 1);
        is("joins again", x.join(0, 2), 3);
        is("next anew", x.nextOf(0, 2), 3);
        is("matched anew", x.matchedOf(0, 2), 0);
    }

    static void promise13() {
        QuorumLog x = settled(3);
        is("leave", x.leave(0, 2), 2);
        is("members", x.membersOf(0), 2);
        is("sees", x.sees(0, 2), false);
        is("kind", x.kindAt(0, 2), 4);
        refused(x, STATE, "an entry of members is not committed", () -> x.leave(0, 1));
        x.pass(4);
        is("committed", x.committedOf(0), 2);
        refused(x, STATE, "is none", () -> x.leave(0, 2));
        refused(x, STATE, "no leader", () -> x.leave(1, 0));
        is("leave once more", x.leave(0, 1), 3);
        is("is committed at once", x.committedOf(0), 3);
        refused(x, STATE, "the only one", () -> x.leave(0, 0));
        for (int none : NO_SERVERS) {
            refused(x, INDEX, "none leaves", () -> x.leave(0, none));
            refused(x, INDEX, "none leads", () -> x.leave(none, 0));
        }
        QuorumLog early = founded(3);
        early.pass(9);
        refused(early, STATE, "nothing of its own term committed", () -> early.leave(0, 1));
        QuorumLog self = settled(3);
        is("the leader leaves", self.leave(0, 0), 2);
        is("leads yet", self.roleOf(0), 3);
        is("sends to both", self.beat(0), 2);
        self.pass(1);
        is("leads yet, with no answers", self.roleOf(0), 3);
        self.deliver(0);
        is("one of two is not most", self.roleOf(0), 3);
        self.deliver(0);
        is("both are, and it is a follower", self.roleOf(0), 0);
        is("follows nobody", self.follows(0), -1);
        is("committed", self.committedOf(0), 2);
        refused(self, STATE, "it may not sound", () -> self.sound(0));
        QuorumLog full = alone();
        fill(full, 38);
        full.join(0, 1);
        full.pass(24);
        is("39 entries", full.lastOf(0), 39);
        is("are few enough", full.leave(0, 1), 40);
        refused(full, STATE, "the last of 40", () -> full.leave(0, 0));
    }

    static void promise14() {
        QuorumLog x = founded(7);
        is("none", x.messages(), 0);
        x.sound(0);
        is("six", x.messages(), 6);
        for (int i = 0; i < 12; i++) {
            x.sound(1);
        }
        is("at most 60", x.messages(), 60);
        is("the rest is lost", x.lost(), 18);
    }

    static void promise15() {
        QuorumLog x = founded(3);
        x.sound(0);
        x.cut(0, 1);
        is("over a cut link", x.deliver(0), false);
        is("lost", x.lost(), 1);
        is("one is left", x.messages(), 1);
        is("arrives", x.deliver(0), true);
        is("the reply", row(x), "2:2>0 t1 i1; ");
        x.fail(0);
        is("to one that is down", x.deliver(0), false);
        is("lost", x.lost(), 2);
        QuorumLog y = founded(3);
        y.sound(0);
        y.sound(1);
        y.deliver(2);
        is("out of turn", row(y), "1:0>1 t1 i0; 1:0>2 t1 i0; 1:1>2 t1 i0; 2:0>1 t1 i1; ");
        y.fail(0);
        is("from one that is down", y.deliver(0), true);
        refused(y, INDEX, "no such", () -> y.deliver(4));
        refused(y, INDEX, "below", () -> y.deliver(-1));
        refused(y, INDEX, "far", () -> y.deliver(60));
        refused(founded(3), INDEX, "none", () -> founded(3).deliver(0));
        votesAreOnce();
        entriesAreOrdered();
    }

    private static void votesAreOnce() {
        QuorumLog x = founded(3);
        x.sound(0);
        x.sound(1);
        // Both stand in term 1; server 2 votes for the one whose call comes first.
        x.deliver(1);
        x.deliver(2);
        x.lose(0);
        x.lose(0);
        is("yeses", row(x), "2:2>0 t1 i1; 2:2>1 t1 i1; ");
        x.deliver(0);
        x.deliver(0);
        is("calls", row(x), "3:0>1 t1 i0; 3:0>2 t1 i0; 3:1>0 t1 i0; 3:1>2 t1 i0; ");
        x.twice(3);
        x.deliver(3);
        x.deliver(1);
        is("one yes and one no", row(x), "3:0>1 t1 i0; 3:1>0 t1 i0; 3:1>2 t1 i0; 4:2>1 t1 i1; 4:2>0 t1 i0; ");
        x.deliver(2);
        is("the same one gets it again", row(x),
                "3:0>1 t1 i0; 3:1>0 t1 i0; 4:2>1 t1 i1; 4:2>0 t1 i0; 4:2>1 t1 i1; ");
        is("voted", x.votedFor(2), 1);
        x.deliver(0);
        is("no of a candidate", x.tells(4), 0);
        x.deliver(1);
        is("leads", x.roleOf(1), 3);
        x.deliver(2);
        is("only once", x.lastOf(1), 1);
    }

    private static void entriesAreOrdered() {
        QuorumLog x = settled(3);
        put(x, 0, 0, 0, 1);
        x.beat(0);
        put(x, 1, 0, 0, 2);
        x.beat(0);
        is("both messages begin at next", row(x), "5:0>1 t1 i2; 5:0>2 t1 i2; 5:0>1 t1 i3; 5:0>2 t1 i3; ");
        x.deliver(2);
        is("the longer one first", x.lastOf(1), 3);
        x.deliver(0);
        is("the shorter one takes nothing away", x.lastOf(1), 3);
        is("answers", row(x), "5:0>2 t1 i2; 5:0>2 t1 i3; 6:1>0 t1 i3; 6:1>0 t1 i2; ");
        x.deliver(3);
        is("matched", x.matchedOf(0, 1), 2);
        is("next", x.nextOf(0, 1), 3);
        is("sends on", row(x), "5:0>2 t1 i2; 5:0>2 t1 i3; 6:1>0 t1 i3; 5:0>1 t1 i3; ");
        x.deliver(2);
        is("matched", x.matchedOf(0, 1), 3);
        is("committed", x.committedOf(0), 3);
        is("nothing more to send", x.messages(), 3);
    }

    static void promise16() {
        QuorumLog x = founded(3);
        x.sound(0);
        x.sound(1);
        is("lose", x.lose(1), 3);
        is("which", row(x), "1:0>1 t1 i0; 1:1>0 t1 i0; 1:1>2 t1 i0; ");
        is("lost", x.lost(), 1);
        refused(x, INDEX, "no such", () -> x.lose(3));
        refused(x, INDEX, "below", () -> x.lose(-1));
        is("lose", x.lose(0), 2);
        is("lose", x.lose(1), 1);
        is("lose", x.lose(0), 0);
        is("lost", x.lost(), 4);
        refused(x, INDEX, "none", () -> x.lose(0));
    }

    static void promise17() {
        QuorumLog x = settled(3);
        put(x, 0, 0, 3, 4);
        x.beat(0);
        is("twice", x.twice(0), 3);
        is("at the end", row(x), "5:0>1 t1 i2; 5:0>2 t1 i2; 5:0>1 t1 i2; ");
        x.lose(0);
        x.deliver(1);
        is("with its entries", x.valueAt(1, 2), 4);
        QuorumLog y = settled(3);
        put(y, 0, 0, 3, 4);
        y.pass(6);
        y.shorten(0);
        y.join(0, 3);
        y.beat(0);
        is("an entry for 3", y.kindOfMessage(2), 5);
        y.deliver(2);
        y.deliver(2);
        is("then a snapshot", y.kindOfMessage(2), 7);
        y.twice(2);
        y.lose(2);
        y.deliver(2);
        is("with its table", y.valueOf(3, 3), 4);
        while (y.messages() < 60) {
            y.twice(0);
        }
        refused(y, STATE, "60", () -> y.twice(0));
        refused(y, INDEX, "no such at 60", () -> y.twice(60));
        refused(y, INDEX, "below", () -> y.twice(-1));
        is("not lost", y.lost(), 1);
        is("one less", y.lose(59), 59);
        is("and one more", y.twice(58), 60);
        refused(founded(1), INDEX, "none", () -> founded(1).twice(0));
    }

    static void promise18() {
        QuorumLog x = founded(3);
        x.sound(0);
        is("sound", x.kindOfMessage(0), 1);
        x.deliver(0);
        is("reply", x.kindOfMessage(1), 2);
        x.deliver(1);
        is("call", x.kindOfMessage(1), 3);
        x.deliver(1);
        is("reply", x.kindOfMessage(2), 4);
        x.deliver(2);
        is("entries", x.kindOfMessage(2), 5);
        x.deliver(2);
        is("answer", x.kindOfMessage(3), 6);
        x.deliver(3);
        x.shorten(0);
        x.join(0, 3);
        loseAll(x);
        is("hurried too soon", x.matchedOf(0, 1), 1);
        x.beat(0);
        is("snapshot", x.kindOfMessage(1), 7);
        QuorumLog y = settled(2);
        y.handOver(0, 1);
        is("hurry", y.kindOfMessage(0), 8);
        noSuchMessage(y, QuorumLog::kindOfMessage);
    }

    interface Question {
        Object of(QuorumLog x, int message);
    }

    private static void noSuchMessage(QuorumLog x, Question question) {
        for (int none : new int[] {-1, x.messages(), 60, Integer.MAX_VALUE, Integer.MIN_VALUE}) {
            refused(x, INDEX, "no such message", () -> question.of(x, none));
        }
        QuorumLog empty = founded(3);
        refused(empty, INDEX, "no message", () -> question.of(empty, 0));
    }

    private static void noSuchServer(QuorumLog x, Question question) {
        for (int none : NO_SERVERS) {
            refused(x, INDEX, "no such server", () -> question.of(x, none));
        }
    }

    static void promise19() {
        QuorumLog x = founded(4);
        x.sound(2);
        is("sender", x.senderOf(0), 2);
        x.deliver(1);
        is("of the reply", x.senderOf(2), 1);
        noSuchMessage(x, QuorumLog::senderOf);
    }

    static void promise20() {
        QuorumLog x = founded(4);
        x.sound(2);
        is("by numbers", x.receiverOf(0), 0);
        is("by numbers", x.receiverOf(1), 1);
        is("not itself", x.receiverOf(2), 3);
        x.deliver(1);
        is("of the reply", x.receiverOf(2), 2);
        noSuchMessage(x, QuorumLog::receiverOf);
    }

    static void promise21() {
        QuorumLog x = settled(3);
        x.handOver(0, 1);
        is("hurry", x.termOfMessage(0), 1);
        x.deliver(0);
        is("call", x.termOfMessage(0), 2);
        x.sound(2);
        is("sound", x.termOfMessage(2), 2);
        noSuchMessage(x, QuorumLog::termOfMessage);
        QuorumLog old = settled(3);
        old.beat(0);
        old.handOver(0, 1);
        old.deliver(2);
        old.deliver(0);
        is("a no tells the own term", row(old), "5:0>2 t1 i1; 3:1>0 t2 i1; 3:1>2 t2 i1; 6:1>0 t2 i0; ");
        old.deliver(3);
        is("the leader gives up", old.roleOf(0), 0);
        is("has the term", old.termOf(0), 2);
        is("voted for nobody", old.votedFor(0), -1);
        oldMessagesOfTheSameLeader(false);
        oldMessagesOfTheSameLeader(true);
    }

    /** Entries or a snapshot of term 1 arrive as their sender leads again in term 2: a no, with the index 0. */
    private static void oldMessagesOfTheSameLeader(boolean asSnapshot) {
        QuorumLog x = settled(3);
        if (asSnapshot) {
            x.shorten(0);
            x.join(0, 3);
            x.beat(0);
            x.lose(0);
            x.lose(0);
            x.deliver(0);
            x.deliver(0);
            is("a snapshot", row(x), "7:0>3 t1 i1; ");
            x.twice(0);
            x.deliver(0);
            x.deliver(1);
            x.deliver(1);
            x.lose(1);
            is("3 has all", x.lastOf(3), 2);
        } else {
            x.beat(0);
            x.lose(0);
        }
        int other = x.receiverOf(0);
        for (int s = 0; s < 4; s++) {
            x.fail(s);
            x.recover(s);
        }
        x.sound(0);
        deliverAllBut(x, 1);
        is("leads again", x.termOf(0), 2);
        is("the other has its term", x.termOf(other), 2);
        is("next", x.nextOf(0, other), x.lastOf(0) + 1);
        is("matched", x.matchedOf(0, other), x.lastOf(0));
        x.deliver(0);
        is("no", row(x), "6:" + other + ">0 t2 i0; ");
        x.deliver(0);
        is("sends at a no, though there is nothing new", row(x), "5:0>" + other + " t2 i" + x.lastOf(0) + "; ");
    }

    static void promise22() {
        QuorumLog x = settled(3);
        put(x, 0, 0, 0, 1);
        put(x, 1, 0, 0, 2);
        x.beat(0);
        is("the last entry in it", x.tells(0), 3);
        x.deliver(0);
        is("of an answer", x.tells(1), 3);
        x.sound(1);
        is("the last index of a sound", x.tells(2), 3);
        QuorumLog y = settled(3);
        y.beat(0);
        is("the previous one", y.tells(0), 1);
        y.handOver(0, 1);
        is("a hurry", y.tells(2), 0);
        y.deliver(2);
        is("the last index of a call", y.tells(2), 1);
        y.deliver(3);
        is("a yes", y.tells(3), 1);
        y.sound(2);
        y.deliver(4);
        is("a no", y.tells(5), 0);
        noSuchMessage(y, QuorumLog::tells);
        tellsWhereToGoOn();
    }

    /** A leader of term 1 has two entries that nobody else has; the leader of term 2 finds out where to go on. */
    private static void tellsWhereToGoOn() {
        QuorumLog x = settled(3);
        isolate(x, 0);
        put(x, 0, 0, 0, 1);
        put(x, 1, 0, 0, 2);
        put(x, 2, 0, 0, 3);
        x.pass(4);
        x.sound(1);
        x.pass(4);
        is("leader of term 2", x.leader(), 1);
        is("its empty entry", x.lastOf(1), 2);
        x.askPut(3, 0, 5);
        x.hand(3, 1);
        x.pass(4);
        is("committed", x.committedOf(1), 3);
        rejoin(x, 0);
        loseAll(x);
        is("next", x.nextOf(1, 0), 2);
        is("last of 0", x.lastOf(0), 4);
        x.beat(1);
        x.deliver(0);
        is("took the entries of term 2", x.lastOf(0), 3);
        is("term", x.termAt(0, 2), 2);
        is("follows", x.follows(0), 1);
        QuorumLog y = settled(2);
        put(y, 0, 0, 0, 1);
        put(y, 1, 0, 0, 1);
        y.pass(4);
        y.join(0, 2);
        y.beat(0);
        is("entries for 2", y.tells(1), 4);
        y.deliver(1);
        is("its last index, which is less", y.tells(1), 0);
        y.deliver(1);
        is("next", y.nextOf(0, 2), 1);
        is("sends again, 4 at most", y.tells(1), 4);
        conflictGoesBack();
    }

    private static void conflictGoesBack() {
        QuorumLog x = settled(3);
        isolate(x, 0);
        for (int i = 0; i < 4; i++) {
            put(x, i, 0, 0, i);
        }
        x.pass(4);
        x.sound(1);
        x.pass(4);
        for (int i = 0; i < 3; i++) {
            x.fail(1);
            x.recover(1);
            x.pass(4);
            x.sound(1);
            x.pass(5);
        }
        is("leads in term 5", x.termOf(1), 5);
        is("last", x.lastOf(1), 5);
        rejoin(x, 0);
        loseAll(x);
        is("next", x.nextOf(1, 0), 5);
        is("last of 0", x.lastOf(0), 5);
        x.beat(1);
        x.deliver(0);
        is("ahead of all entries of term 1", x.tells(x.messages() - 1), 1);
        is("no less than it has committed", x.committedOf(0), 1);
        x.deliver(x.messages() - 1);
        is("sends from 2 on", x.tells(x.messages() - 1), 5);
        x.deliver(x.messages() - 1);
        is("all agree", x.agreeUpTo(0, 1), 5);
    }

    static void promise23() {
        QuorumLog x = alone();
        is("ask", x.askPut(0, 3, 9999), 1);
        x.hand(0, 0);
        is("gives the one before", x.answerTo(0), 0);
        is("ask", x.askPut(0, 3, -9999), 2);
        x.hand(0, 0);
        is("gives the one before", x.answerTo(0), 9999);
        is("value", x.valueOf(0, 3), -9999);
        is("of another client", x.askPut(3, 7, 0), 1);
        refusedRequests(x, (c, k, v) -> x.askPut(c, k, v));
    }

    interface Ask {
        Object of(int client, int key, int value);
    }

    private static void refusedRequests(QuorumLog x, Ask ask) {
        if (!x.isAnswered(1) && x.serialOf(1) > 0) {
            is("client 1 is free", false, true);
        }
        ask.of(2, 0, 1);
        refused(x, STATE, "not answered", () -> ask.of(2, 0, 1));
        for (int wrong : new int[] {10000, -10000, Integer.MAX_VALUE, Integer.MIN_VALUE}) {
            refused(x, ARGUMENT, "value", () -> ask.of(1, 0, wrong));
            refused(x, ARGUMENT, "value, and not answered", () -> ask.of(2, 0, wrong));
            refused(x, INDEX, "client, and value", () -> ask.of(4, 0, wrong));
            refused(x, INDEX, "key, and value", () -> ask.of(0, 8, wrong));
        }
        for (int wrong : new int[] {-1, 8, Integer.MAX_VALUE, Integer.MIN_VALUE}) {
            refused(x, INDEX, "client", () -> ask.of(wrong, 0, 0));
            refused(x, INDEX, "key", () -> ask.of(1, wrong, 0));
            refused(x, INDEX, "key, and not answered", () -> ask.of(2, wrong, 0));
        }
        refused(x, INDEX, "client 4", () -> ask.of(4, 0, 0));
    }

    static void promise24() {
        QuorumLog x = alone();
        is("ask", x.askAdd(0, 3, 9999), 1);
        x.hand(0, 0);
        is("gives the sum", x.answerTo(0), 9999);
        is("ask", x.askAdd(0, 3, -9999), 2);
        x.hand(0, 0);
        is("gives the sum", x.answerTo(0), 0);
        is("ask", x.askAdd(0, 3, -9999), 3);
        x.hand(0, 0);
        is("value", x.valueOf(0, 3), -9999);
        is("other keys stay", x.valueOf(0, 2), 0);
        refusedRequests(x, (c, k, v) -> x.askAdd(c, k, v));
    }

    static void promise25() {
        QuorumLog x = alone();
        put(x, 0, 0, 3, 5);
        is("ask", x.askSwap(0, 3, 4, 6), 2);
        x.hand(0, 0);
        is("not the expected one", x.answerTo(0), 0);
        is("value stays", x.valueOf(0, 3), 5);
        is("ask", x.askSwap(0, 3, 5, 6), 3);
        is("the value of the entry", x.valueAt(0, x.hand(0, 0)), 6);
        is("the expected one", x.answerTo(0), 1);
        is("value", x.valueOf(0, 3), 6);
        is("edges", x.askSwap(0, 3, -9999, 9999), 4);
        refusedRequests(x, (c, k, v) -> x.askSwap(c, k, 0, v));
        QuorumLog y = alone();
        refusedRequests(y, (c, k, v) -> y.askSwap(c, k, v, 0));
    }

    static void promise26() {
        QuorumLog x = settled(3);
        refused(x, STATE, "no request", () -> x.hand(0, 0));
        x.askPut(0, 1, 7);
        is("hand", x.hand(0, 0), 2);
        is("not sent at once", x.messages(), 0);
        is("kind", x.kindAt(0, 2), 1);
        is("term", x.termAt(0, 2), 1);
        is("hand once more", x.hand(0, 0), 3);
        x.pass(4);
        is("answered", x.isAnswered(0), true);
        is("applied once: the one before", x.answerTo(0), 0);
        refused(x, STATE, "answered", () -> x.hand(0, 0));
        x.askAdd(1, 1, 1);
        refused(x, STATE, "no leader", () -> x.hand(1, 1));
        refused(x, INDEX, "client 4", () -> x.hand(4, 0));
        for (int none : NO_SERVERS) {
            refused(x, INDEX, "no server", () -> x.hand(1, none));
            refused(x, INDEX, "no client", () -> x.hand(none, 0));
            refused(x, INDEX, "no server, no request", () -> x.hand(3, none));
        }
        QuorumLog full = alone();
        fill(full, 39);
        full.askPut(1, 0, 0);
        is("the 40th", full.hand(1, 0), 40);
        full.askPut(1, 0, 0);
        refused(full, STATE, "40 entries", () -> full.hand(1, 0));
        full.shorten(0);
        is("shortened", full.hand(1, 0), 41);
        appliedOnce();
    }

    /** A request that is in the log twice is applied once; a later one's answer is its own. */
    private static void appliedOnce() {
        QuorumLog x = settled(3);
        x.askAdd(0, 0, 5);
        x.hand(0, 0);
        x.hand(0, 0);
        x.hand(0, 0);
        x.pass(6);
        is("once", x.valueOf(0, 0), 5);
        is("by others, too", x.valueOf(1, 0), 5);
        is("answer", x.answerTo(0), 5);
        x.askAdd(0, 0, 1);
        x.hand(0, 0);
        x.pass(6);
        is("then", x.answerTo(0), 6);
        is("serial", x.appliedSerial(2, 0), 2);
        byAnotherLeader();
    }

    /** A request that a leader appended, but did not commit, is answered by the next leader that has it. */
    private static void byAnotherLeader() {
        QuorumLog x = settled(3);
        x.askAdd(0, 0, 5);
        x.hand(0, 0);
        x.beat(0);
        x.deliver(0);
        is("server 1 has it", x.lastOf(1), 2);
        x.fail(0);
        x.pass(4);
        x.sound(1);
        x.pass(4);
        is("leads", x.roleOf(1), 3);
        is("entries of an older term are not committed by their copies", x.committedOf(1), 1);
        is("not answered", x.isAnswered(0), false);
        x.hand(0, 1);
        x.pass(4);
        is("answered", x.isAnswered(0), true);
        is("applied once", x.valueOf(1, 0), 5);
        is("with", x.answerTo(0), 5);
        followersDontAnswer();
    }

    private static void followersDontAnswer() {
        QuorumLog x = settled(3);
        x.askAdd(0, 0, 5);
        x.hand(0, 0);
        x.pass(2);
        is("answered by the leader", x.isAnswered(0), true);
        is("a follower has not applied it", x.appliedSerial(1, 0), 0);
        x.askAdd(0, 0, 5);
        x.pass(3);
        is("old serials answer nothing", x.isAnswered(0), false);
    }

    static void promise27() {
        QuorumLog x = alone();
        is("no request", x.serialOf(2), 0);
        put(x, 2, 0, 0, 0);
        is("one", x.serialOf(2), 1);
        x.askAdd(2, 0, 0);
        is("two", x.serialOf(2), 2);
        is("of another", x.serialOf(3), 0);
        noSuchClient(x, QuorumLog::serialOf);
    }

    private static void noSuchClient(QuorumLog x, Question question) {
        for (int none : new int[] {-1, 4, 7, Integer.MAX_VALUE, Integer.MIN_VALUE}) {
            refused(x, INDEX, "no such client", () -> question.of(x, none));
        }
    }

    static void promise28() {
        QuorumLog x = settled(3);
        is("without one", x.isAnswered(0), false);
        put(x, 0, 0, 0, 1);
        is("not yet", x.isAnswered(0), false);
        x.pass(1);
        is("others have it", x.lastOf(1), 2);
        is("not yet", x.isAnswered(0), false);
        x.pass(1);
        is("answered", x.isAnswered(0), true);
        x.askPut(0, 0, 2);
        is("the next one is not", x.isAnswered(0), false);
        noSuchClient(x, QuorumLog::isAnswered);
    }

    static void promise29() {
        QuorumLog x = alone();
        refused(x, STATE, "none", () -> x.answerTo(1));
        x.askAdd(1, 0, 3);
        refused(x, STATE, "not answered", () -> x.answerTo(1));
        x.hand(1, 0);
        is("answer", x.answerTo(1), 3);
        put(x, 2, 0, 0, 8);
        is("stays", x.answerTo(1), 3);
        is("of the other", x.answerTo(2), 3);
        x.askAdd(1, 0, 3);
        refused(x, STATE, "the next is not answered", () -> x.answerTo(1));
        noSuchClient(x, QuorumLog::answerTo);
        snapshotKeepsWhatWasGiven();
    }

    /** The second entry of a request is committed by a leader whose table came by a snapshot. */
    private static void snapshotKeepsWhatWasGiven() {
        QuorumLog x = settled(3);
        x.askAdd(0, 0, 5);
        x.hand(0, 0);
        x.beat(0);
        x.hand(0, 0);
        x.deliver(0);
        x.deliver(1);
        is("committed", x.committedOf(0), 2);
        is("answered", x.answerTo(0), 5);
        x.shorten(0);
        loseAll(x);
        x.beat(0);
        is("a snapshot", x.kindOfMessage(1), 7);
        x.deliver(1);
        x.deliver(1);
        x.deliver(1);
        is("and the second entry", x.lastOf(2), 3);
        is("not committed", x.committedOf(2), 2);
        loseAll(x);
        for (int s = 0; s < 3; s++) {
            x.fail(s);
        }
        x.recover(1);
        x.recover(2);
        x.sound(2);
        x.pass(10);
        is("leads", x.leader(), 2);
        is("the second entry is applied", x.committedOf(2), 4);
        is("with what the table says that it gave", x.answerTo(0), 5);
        is("once", x.valueOf(2, 0), 5);
    }

    static void promise30() {
        QuorumLog x = new QuorumLog();
        is("round", x.round(), 0);
        x.pass(1);
        is("round", x.round(), 1);
        x.pass(30);
        is("round", x.round(), 31);
        x.roundsToAgree();
        is("round", x.round(), 31);
        x.found(2);
        is("round", x.round(), 0);
    }

    static void promise31() {
        QuorumLog x = founded(7);
        is("lost", x.lost(), 0);
        for (int i = 0; i < 11; i++) {
            x.sound(0);
        }
        is("sent as there were 60", x.lost(), 6);
        x.lose(5);
        is("by lose", x.lost(), 7);
        x.cut(0, 1);
        x.deliver(0);
        is("by a cut link", x.lost(), 8);
        x.fail(2);
        x.deliver(0);
        is("by one that is down", x.lost(), 9);
        x.deliver(0);
        is("not if it arrives", x.lost(), 9);
        x.found(3);
        is("anew", x.lost(), 0);
    }

    static void promise32() {
        QuorumLog x = new QuorumLog();
        is("up", x.isUp(6), true);
        x.fail(6);
        is("down", x.isUp(6), false);
        is("another", x.isUp(5), true);
        x.recover(6);
        is("up", x.isUp(6), true);
        noSuchServer(x, QuorumLog::isUp);
    }

    static void promise33() {
        QuorumLog x = founded(3);
        is("follower", x.roleOf(0), 0);
        x.pass(6);
        is("sounder", x.roleOf(0), 1);
        x.pass(1);
        is("candidate", x.roleOf(0), 2);
        x.pass(2);
        is("leader", x.roleOf(0), 3);
        x.fail(0);
        is("down", x.roleOf(0), 0);
        noSuchServer(x, QuorumLog::roleOf);
    }

    static void promise34() {
        QuorumLog x = settled(3);
        is("term", x.termOf(0), 1);
        is("term", x.termOf(2), 1);
        is("no member", x.termOf(3), 0);
        x.handOver(0, 1);
        x.deliver(0);
        is("of the candidate", x.termOf(1), 2);
        x.deliver(0);
        is("of who was called", x.termOf(0), 2);
        is("of who was not", x.termOf(2), 1);
        noSuchServer(x, QuorumLog::termOf);
    }

    static void promise35() {
        QuorumLog x = settled(3);
        is("for itself", x.votedFor(0), 0);
        is("for it", x.votedFor(1), 0);
        is("nobody", x.votedFor(3), -1);
        x.handOver(0, 2);
        x.deliver(0);
        is("for itself", x.votedFor(2), 2);
        x.deliver(0);
        is("for the next", x.votedFor(0), 2);
        x.fail(0);
        is("keeps it", x.votedFor(0), 2);
        noSuchServer(x, QuorumLog::votedFor);
    }

    static void promise36() {
        QuorumLog x = settled(3);
        is("leader", x.follows(0), -1);
        is("member", x.follows(1), 0);
        is("no member", x.follows(4), -1);
        x.sound(1);
        is("a sounder", x.follows(1), -1);
        x.handOver(0, 2);
        x.deliver(2);
        is("a candidate", x.follows(2), -1);
        x.deliver(3);
        is("one that was called", x.follows(1), -1);
        noSuchServer(x, QuorumLog::follows);
    }

    static void promise37() {
        QuorumLog x = founded(3);
        x.pass(4);
        is("waited", x.waitedOf(1), 4);
        is("no member", x.waitedOf(3), 0);
        x.fail(1);
        x.pass(1);
        is("down", x.waitedOf(1), 0);
        x.recover(1);
        x.pass(1);
        is("from then on", x.waitedOf(1), 1);
        is("who sounds", x.waitedOf(0), 0);
        is("one that was asked", x.waitedOf(2), 6);
        noSuchServer(x, QuorumLog::waitedOf);
    }

    static void promise38() {
        QuorumLog x = new QuorumLog();
        int[] first = {6, 9, 12, 8, 11, 7, 10};
        for (int s = 0; s < 7; s++) {
            is("of server " + s, x.patienceOf(s), first[s]);
        }
        x = settled(3);
        is("in term 1", x.patienceOf(0), 11);
        is("in term 1", x.patienceOf(1), 7);
        is("in term 1", x.patienceOf(2), 10);
        is("in term 0", x.patienceOf(3), 8);
        noSuchServer(x, QuorumLog::patienceOf);
    }

    static void promise39() {
        QuorumLog x = settled(3);
        is("none", x.snapshotOf(0), 0);
        x.shorten(0);
        is("snapshot", x.snapshotOf(0), 1);
        is("of another", x.snapshotOf(1), 0);
        noSuchServer(x, QuorumLog::snapshotOf);
    }

    static void promise40() {
        QuorumLog x = settled(3);
        is("last", x.lastOf(0), 1);
        is("no member", x.lastOf(3), 0);
        put(x, 0, 0, 0, 0);
        is("last", x.lastOf(0), 2);
        is("of another", x.lastOf(1), 1);
        x.shorten(1);
        is("without entries", x.lastOf(1), 1);
        noSuchServer(x, QuorumLog::lastOf);
        logsHaveNoEnd();
    }

    private static void logsHaveNoEnd() {
        QuorumLog x = longLogs(70);
        is("last", x.lastOf(1), 70);
        is("snapshot", x.snapshotOf(1), 0);
        is("sounding with so many", x.sound(1), 0);
        int role = x.roleIfSounding(1);
        for (int i = 71; i <= 100; i++) {
            put(x, i % 4, 0, i % 8, i);
            x.pass(4);
            x.shorten(0);
        }
        is("role", role, 0);
        is("last", x.lastOf(1), 100);
        is("last term", x.lastTermOf(1), 1);
        for (int i = 2; i <= 100; i++) {
            is("value at " + i, x.valueAt(1, i), i);
        }
        is("digest", x.digest(), digestByHand(x));
        is("agree", x.agreeUpTo(1, 2), 100);
        int rounds = x.roundsToAgree();
        x.pass(Math.max(rounds, 1));
        is("agree then", x.roundsToAgree(), 0);
        x.fail(1);
        x.recover(1);
        is("all to be applied again", x.committedOf(1), 0);
        x.pass(2);
        is("applied", x.committedOf(1), 100);
        is("value", x.valueOf(1, 4), 100);
        x.shorten(1);
        is("shortened", x.snapshotOf(1), 100);
    }

    static void promise41() {
        QuorumLog x = settled(3);
        is("last term", x.lastTermOf(1), 1);
        is("no member", x.lastTermOf(3), 0);
        x.shorten(1);
        is("of the snapshot", x.lastTermOf(1), 1);
        x.handOver(0, 2);
        x.pass(4);
        is("of the next leader", x.lastTermOf(2), 2);
        noSuchServer(x, QuorumLog::lastTermOf);
    }

    static void promise42() {
        QuorumLog x = settled(3);
        is("committed", x.committedOf(0), 1);
        put(x, 0, 0, 0, 0);
        x.beat(0);
        is("not yet", x.committedOf(0), 1);
        x.deliver(0);
        x.deliver(1);
        is("most have it", x.committedOf(0), 2);
        is("who has it does not know", x.committedOf(1), 1);
        x.pass(6);
        is("then", x.committedOf(1), 2);
        noSuchServer(x, QuorumLog::committedOf);
        notFurtherThanTheMessage();
    }

    /** Six entries are committed, but a message has four at most; who gets them has committed no further. */
    private static void notFurtherThanTheMessage() {
        QuorumLog x = settled(3);
        isolate(x, 2);
        for (int i = 0; i < 4; i++) {
            put(x, i, 0, i, 1);
        }
        x.pass(4);
        put(x, 0, 0, 0, 2);
        put(x, 1, 0, 0, 3);
        x.pass(4);
        is("committed", x.committedOf(0), 7);
        rejoin(x, 2);
        loseAll(x);
        x.beat(0);
        x.deliver(1);
        is("four entries", x.lastOf(2), 5);
        is("committed so far", x.committedOf(2), 5);
    }

    static void promise43() {
        QuorumLog x = settled(5);
        is("members", x.membersOf(0), 5);
        x.leave(0, 4);
        is("at once", x.membersOf(0), 4);
        is("others not yet", x.membersOf(4), 5);
        x.pass(3);
        is("with the entry", x.membersOf(1), 4);
        is("who left", x.membersOf(4), 5);
        noSuchServer(x, QuorumLog::membersOf);
        entriesOfMembersGo();
    }

    /** An entry of members that is not committed is taken away, and the members are those from before. */
    private static void entriesOfMembersGo() {
        QuorumLog x = settled(3);
        isolate(x, 0);
        x.join(0, 4);
        is("four", x.membersOf(0), 4);
        x.pass(4);
        x.sound(1);
        x.pass(4);
        rejoin(x, 0);
        x.pass(6);
        is("follows", x.follows(0), 1);
        is("three again", x.membersOf(0), 3);
    }

    static void promise44() {
        QuorumLog x = settled(3);
        is("itself", x.sees(0, 0), true);
        is("another", x.sees(1, 2), true);
        is("no member", x.sees(1, 3), false);
        is("not itself", x.sees(3, 3), false);
        x.join(0, 3);
        is("who joins", x.sees(0, 3), true);
        is("by others", x.sees(1, 3), false);
        noSuchServer(x, (y, none) -> y.sees(0, none));
        noSuchServer(x, (y, none) -> y.sees(none, 0));
    }

    static void promise45() {
        QuorumLog x = settled(3);
        is("of the snapshot", x.termAt(0, 0), 0);
        is("of an entry", x.termAt(0, 1), 1);
        refused(x, INDEX, "behind", () -> x.termAt(0, 2));
        x.shorten(0);
        is("of the snapshot", x.termAt(0, 1), 1);
        refused(x, INDEX, "ahead", () -> x.termAt(0, 0));
        noSuchEntry(x, QuorumLog::termAt);
    }

    interface EntryQuestion {
        Object of(QuorumLog x, int server, int index);
    }

    private static void noSuchEntry(QuorumLog x, EntryQuestion question) {
        for (int none : NO_SERVERS) {
            refused(x, INDEX, "no such server", () -> question.of(x, none, 1));
        }
        for (int none : new int[] {-1, 1000, Integer.MAX_VALUE, Integer.MIN_VALUE}) {
            refused(x, INDEX, "no such entry", () -> question.of(x, 0, none));
        }
    }

    private static void snapshotHasNoEntry(EntryQuestion question) {
        QuorumLog x = settled(3);
        refused(x, INDEX, "index of the first snapshot", () -> question.of(x, 0, 0));
        refused(x, INDEX, "behind", () -> question.of(x, 0, 2));
        x.shorten(0);
        refused(x, INDEX, "index of the snapshot", () -> question.of(x, 0, 1));
        noSuchEntry(x, question);
    }

    static void promise46() {
        QuorumLog x = allKinds();
        for (int i = 1; i <= 5; i++) {
            is("kind", x.kindAt(0, i), i - 1);
        }
        snapshotHasNoEntry(QuorumLog::kindAt);
    }

    static void promise47() {
        QuorumLog x = allKinds();
        int[] values = {0, 10, 20, 30, 4};
        for (int i = 1; i <= 5; i++) {
            is("value", x.valueAt(0, i), values[i - 1]);
        }
        snapshotHasNoEntry(QuorumLog::valueAt);
    }

    static void promise48() {
        QuorumLog x = allKinds();
        int[] clients = {-1, 0, 1, 3, -1};
        for (int i = 1; i <= 5; i++) {
            is("client", x.clientAt(0, i), clients[i - 1]);
        }
        snapshotHasNoEntry(QuorumLog::clientAt);
    }

    static void promise49() {
        QuorumLog x = allKinds();
        x.pass(8);
        x.askPut(3, 1, 1);
        x.hand(3, 0);
        int[] serials = {0, 1, 1, 1, 0, 2};
        for (int i = 1; i <= 6; i++) {
            is("serial", x.serialAt(0, i), serials[i - 1]);
        }
        snapshotHasNoEntry(QuorumLog::serialAt);
    }

    static void promise50() {
        QuorumLog x = allKinds();
        is("not yet", x.valueOf(0, 1), 0);
        x.pass(8);
        is("value", x.valueOf(0, 1), 30);
        is("of a follower", x.valueOf(2, 1), 30);
        is("of another key", x.valueOf(0, 7), 0);
        is("no member", x.valueOf(5, 1), 0);
        x.fail(2);
        is("down", x.valueOf(2, 1), 0);
        x.shorten(1);
        x.fail(1);
        is("down, with a snapshot", x.valueOf(1, 1), 30);
        noSuchServer(x, (y, none) -> y.valueOf(none, 0));
        for (int none : new int[] {-1, 8, Integer.MAX_VALUE, Integer.MIN_VALUE}) {
            refused(x, INDEX, "no such key", () -> x.valueOf(0, none));
        }
    }

    static void promise51() {
        QuorumLog x = allKinds();
        is("not yet", x.appliedSerial(0, 0), 0);
        x.pass(8);
        is("serial", x.appliedSerial(0, 0), 1);
        is("of none", x.appliedSerial(0, 2), 0);
        x.askPut(0, 0, 0);
        x.hand(0, 0);
        x.pass(8);
        is("serial", x.appliedSerial(1, 0), 2);
        x.shorten(1);
        x.fail(1);
        is("down, with a snapshot", x.appliedSerial(1, 0), 2);
        x.fail(2);
        is("down", x.appliedSerial(2, 0), 0);
        noSuchServer(x, (y, none) -> y.appliedSerial(none, 0));
        noSuchClient(x, (y, none) -> y.appliedSerial(0, none));
    }

    static void promise52() {
        QuorumLog x = settled(3);
        is("next", x.nextOf(0, 1), 2);
        is("of no member", x.nextOf(0, 6), 1);
        refusedPairs(x, QuorumLog::nextOf);
        nextStaysAtAnOldYes();
    }

    /** At a yes with an index that is no greater than matched, next stays, though a no has made it greater. */
    private static void nextStaysAtAnOldYes() {
        QuorumLog x = alone();
        fill(x, 12);
        is("joins", x.join(0, 1), 13);
        x.beat(0);
        x.twice(0);
        x.deliver(0);
        is("no, the log is empty", row(x), "5:0>1 t1 i13; 6:1>0 t1 i0; ");
        x.deliver(1);
        is("sends from the first on", row(x), "5:0>1 t1 i13; 5:0>1 t1 i4; ");
        x.deliver(1);
        x.twice(1);
        x.deliver(1);
        is("matched", x.matchedOf(0, 1), 4);
        is("next", x.nextOf(0, 1), 5);
        is("sends on", row(x), "5:0>1 t1 i13; 6:1>0 t1 i4; 5:0>1 t1 i8; ");
        x.deliver(2);
        x.lose(2);
        x.deliver(0);
        is("an old message, and a no", row(x), "6:1>0 t1 i4; 6:1>0 t1 i8; ");
        x.deliver(1);
        is("next behind the no", x.nextOf(0, 1), 9);
        is("matched stays", x.matchedOf(0, 1), 4);
        x.deliver(0);
        is("next behind the old yes", x.nextOf(0, 1), 9);
        is("matched", x.matchedOf(0, 1), 4);
        is("sends again at each yes", row(x), "5:0>1 t1 i12; 5:0>1 t1 i12; ");
    }

    private static void refusedPairs(QuorumLog x, EntryQuestion question) {
        refused(x, STATE, "no leader", () -> question.of(x, 1, 0));
        refused(x, ARGUMENT, "the same", () -> question.of(x, 0, 0));
        refused(x, ARGUMENT, "the same, and no leader", () -> question.of(x, 1, 1));
        for (int none : NO_SERVERS) {
            refused(x, INDEX, "of none", () -> question.of(x, 0, none));
            refused(x, INDEX, "none leads", () -> question.of(x, none, 0));
            refused(x, INDEX, "none, the same", () -> question.of(x, none, none));
            refused(x, INDEX, "of none, and no leader", () -> question.of(x, 1, none));
        }
    }

    static void promise53() {
        QuorumLog x = settled(3);
        is("matched", x.matchedOf(0, 1), 1);
        is("of no member", x.matchedOf(0, 6), 0);
        put(x, 0, 0, 0, 0);
        x.beat(0);
        x.deliver(0);
        is("not yet", x.matchedOf(0, 1), 1);
        x.deliver(1);
        is("matched", x.matchedOf(0, 1), 2);
        is("of the other", x.matchedOf(0, 2), 1);
        refusedPairs(x, QuorumLog::matchedOf);
    }

    static void promise54() {
        is("none", founded(3).leader(), -1);
        is("one", settled(3).leader(), 0);
        QuorumLog x = twoLeaders();
        is("two", x.roleOf(0) + x.roleOf(1), 6);
        is("the greatest term", x.leader(), 1);
        x.fail(1);
        is("the other", x.leader(), 0);
    }

    static void promise55() {
        is("none", founded(3).leaders(), 0);
        is("one", settled(3).leaders(), 1);
        QuorumLog x = twoLeaders();
        is("two", x.leaders(), 2);
        x.fail(1);
        is("one", x.leaders(), 1);
    }

    static void promise56() {
        is("none", founded(3).committed(), 0);
        QuorumLog x = settled(3);
        put(x, 0, 0, 0, 0);
        x.pass(2);
        is("the leader", x.committed(), 2);
        is("others less", x.committedOf(2), 1);
        x.fail(0);
        is("others", x.committed(), 1);
        x.shorten(1);
        x.fail(1);
        x.fail(2);
        is("down, with a snapshot", x.committed(), 1);
    }

    static void promise57() {
        QuorumLog x = settled(3);
        is("both", x.agreeUpTo(0, 1), 1);
        is("no member", x.agreeUpTo(0, 3), 0);
        is("the same", x.agreeUpTo(2, 2), 1);
        put(x, 0, 0, 0, 0);
        is("the smaller one", x.agreeUpTo(0, 1), 1);
        isolate(x, 0);
        x.pass(4);
        x.sound(1);
        x.pass(6);
        is("last", x.lastOf(1), 2);
        is("not the same term", x.agreeUpTo(0, 1), 1);
        is("the other way", x.agreeUpTo(1, 0), 1);
        x.shorten(1);
        is("up to the snapshot always", x.agreeUpTo(0, 1), 2);
        is("no greater than the last index", x.agreeUpTo(3, 1), 0);
        noSuchServer(x, (y, none) -> y.agreeUpTo(0, none));
        noSuchServer(x, (y, none) -> y.agreeUpTo(none, 0));
    }

    static void promise58() {
        QuorumLog x = settled(3);
        is("all", x.copiesOf(0, 1), 3);
        put(x, 0, 0, 0, 0);
        is("itself", x.copiesOf(0, 2), 1);
        x.beat(0);
        x.deliver(0);
        is("two", x.copiesOf(0, 2), 2);
        x.fail(1);
        is("down counts", x.copiesOf(0, 2), 2);
        x.shorten(2);
        is("a snapshot", x.copiesOf(0, 1), 3);
        QuorumLog y = twoLeaders();
        y.askPut(0, 0, 0);
        y.hand(0, 0);
        is("not with another term", y.copiesOf(0, 2), 1);
        QuorumLog self = settled(3);
        self.leave(0, 0);
        is("it is no member", self.copiesOf(0, 2), 0);
        snapshotHasNoEntry(QuorumLog::copiesOf);
    }

    static void promise59() {
        QuorumLog x = founded(3);
        is("all are as good", x.couldWin(2), true);
        is("no member, but as good", x.couldWin(5), true);
        x = settled(3);
        is("a member", x.couldWin(1), true);
        is("no member, less good", x.couldWin(5), false);
        put(x, 0, 0, 0, 0);
        is("one of three is better", x.couldWin(1), true);
        x.beat(0);
        x.deliver(0);
        is("two of three are better", x.couldWin(2), false);
        x.fail(0);
        is("down or up", x.couldWin(2), false);
        is("down, itself", x.couldWin(0), true);
        QuorumLog two = settled(2);
        put(two, 0, 0, 0, 0);
        is("one of two is not most", two.couldWin(1), false);
        QuorumLog y = twoLeaders();
        for (int i = 0; i < 4; i++) {
            put(y, i, 0, 0, 0);
        }
        is("a longer log of an elder term", y.couldWin(0), false);
        noSuchServer(y, QuorumLog::couldWin);
    }

    static void promise60() {
        QuorumLog x = settled(3);
        is("one", x.valuesOf(0), 1);
        put(x, 0, 0, 0, 5);
        x.beat(0);
        x.deliver(0);
        x.deliver(1);
        is("two", x.valuesOf(0), 2);
        is("of another key", x.valuesOf(1), 1);
        x.pass(8);
        put(x, 0, 0, 0, 0);
        x.beat(0);
        x.deliver(0);
        x.deliver(1);
        is("0 again, and 5, and 0", x.valuesOf(0), 2);
        put(x, 0, 0, 0, 6);
        x.beat(0);
        x.deliver(x.messages() - 2);
        x.deliver(x.messages() - 1);
        is("6, 5 and 0", x.valuesOf(0), 3);
        x.fail(0);
        is("who is down does not count", x.valuesOf(0), 2);
        for (int s = 1; s < 7; s++) {
            x.fail(s);
        }
        is("none is up", x.valuesOf(0), 0);
        for (int none : new int[] {-1, 8, Integer.MAX_VALUE, Integer.MIN_VALUE}) {
            refused(x, INDEX, "no such key", () -> x.valuesOf(none));
        }
    }

    static void promise61() {
        QuorumLog x = founded(3);
        // The leader is there behind round 9, and its first entries arrive in round 10.
        unchanged(x, "from the beginning", x::roundsToLeader, 10);
        x.pass(9);
        is("leads", x.leader(), 0);
        unchanged(x, "not yet followed", x::roundsToLeader, 1);
        x.pass(1);
        unchanged(x, "followed", x::roundsToLeader, 0);
        x.fail(1);
        x.recover(1);
        unchanged(x, "until the next beat", x::roundsToLeader, 1);
        x.fail(1);
        unchanged(x, "who is down need not follow", x::roundsToLeader, 0);
        x.fail(2);
        x.fail(0);
        unchanged(x, "never", x::roundsToLeader, -1);
        unchanged(alone(), "alone", alone()::roundsToLeader, 0);
        unchanged(founded(1), "alone, behind 6", founded(1)::roundsToLeader, 6);
        QuorumLog y = settled(3);
        y.fail(1);
        y.fail(2);
        unchanged(y, "nobody else is up", y::roundsToLeader, 0);
        y.recover(1);
        y.cut(0, 1);
        unchanged(y, "cut off", y::roundsToLeader, -1);
        countsDown(Checks::lateElection, QuorumLog::roundsToLeader, Checks::isLed);
    }

    static void promise62() {
        QuorumLog x = settled(3);
        unchanged(x, "no request", () -> x.roundsToAnswer(0), 0);
        x.askPut(0, 0, 1);
        unchanged(x, "not handed over", () -> x.roundsToAnswer(0), -1);
        x.hand(0, 0);
        // The beat is in the next round, and the answers to it are handled in the round behind that.
        unchanged(x, "handed over", () -> x.roundsToAnswer(0), 2);
        x.pass(2);
        unchanged(x, "answered", () -> x.roundsToAnswer(0), 0);
        x.askPut(1, 0, 1);
        x.hand(1, 0);
        isolate(x, 0);
        unchanged(x, "cut off", () -> x.roundsToAnswer(1), -1);
        noSuchClient(x, QuorumLog::roundsToAnswer);
        countsDown(Checks::lateAnswer, y -> y.roundsToAnswer(0), y -> y.isAnswered(0));
    }

    static void promise63() {
        QuorumLog x = founded(3);
        unchanged(x, "from the beginning", x::roundsToAgree, 13);
        x.pass(12);
        is("one has not committed", x.committedOf(1), 0);
        unchanged(x, "next round", x::roundsToAgree, 1);
        x.pass(1);
        unchanged(x, "now", x::roundsToAgree, 0);
        x.pass(1);
        put(x, 0, 0, 0, 0);
        unchanged(x, "with one more", x::roundsToAgree, 3);
        x.fail(1);
        unchanged(x, "down does not count", x::roundsToAgree, 3);
        x.fail(2);
        unchanged(x, "the leader must have committed it", x::roundsToAgree, -1);
        x.fail(0);
        unchanged(x, "no leader", x::roundsToAgree, -1);
        countsDown(Checks::lateElection, QuorumLog::roundsToAgree, Checks::isAgreed);
        countsDown(Checks::lateAnswer, QuorumLog::roundsToAgree, Checks::isAgreed);
    }

    static void promise64() {
        QuorumLog x = founded(3);
        unchanged(x, "sounds, stands, waits for votes", () -> x.roleIfSounding(0), 2);
        unchanged(x, "no member", () -> x.roleIfSounding(3), -1);
        QuorumLog y = settled(3);
        unchanged(y, "a leader", () -> y.roleIfSounding(0), -1);
        unchanged(y, "is refused by followers, and the leader beats", () -> y.roleIfSounding(1), 0);
        y.fail(1);
        unchanged(y, "down", () -> y.roleIfSounding(1), -1);
        QuorumLog single = founded(1);
        unchanged(single, "alone", () -> single.roleIfSounding(0), 3);
        QuorumLog cutOff = founded(3);
        isolate(cutOff, 2);
        unchanged(cutOff, "cut off", () -> cutOff.roleIfSounding(2), 1);
        noSuchServer(x, QuorumLog::roleIfSounding);
    }

    static void promise65() {
        QuorumLog x = settled(3);
        unchanged(x, "another leads", () -> x.roundsWithout(1), 0);
        // Server 1 has waited 1 round and sounds behind 6; one yes comes in the next, the vote 2 later.
        unchanged(x, "without the leader", () -> x.roundsWithout(0), 9);
        QuorumLog y = founded(3);
        unchanged(y, "no leader yet", () -> y.roundsWithout(6), 9);
        x.fail(2);
        unchanged(x, "one of three", () -> x.roundsWithout(0), -1);
        refused(x, STATE, "down", () -> x.roundsWithout(2));
        QuorumLog two = twoLeaders();
        unchanged(two, "one of two leaders", () -> two.roundsWithout(1), 0);
        noSuchServer(x, QuorumLog::roundsWithout);
        countsDown(Checks::lateElection, z -> z.roundsWithout(6), z -> z.leaders() > 0);
        votesCountAsTheyAre();
    }

    /** Server 1 has voted for server 0 in term 1, so server 2 needs another term. */
    private static void votesCountAsTheyAre() {
        QuorumLog x = founded(3);
        x.roundsWithout(0);
        x.sound(0);
        x.sound(2);
        x.deliver(0);
        x.deliver(2);
        is("yeses of server 1", row(x), "1:0>2 t1 i0; 1:2>0 t1 i0; 2:1>0 t1 i1; 2:1>2 t1 i1; ");
        x.lose(0);
        x.lose(0);
        x.deliver(0);
        x.deliver(0);
        is("calls", row(x), "3:0>1 t1 i0; 3:0>2 t1 i0; 3:2>0 t1 i0; 3:2>1 t1 i0; ");
        x.deliver(0);
        is("voted", x.votedFor(1), 0);
        int due = x.roundsWithout(0);
        x.fail(0);
        int rounds = 0;
        while (rounds < 30 && x.leaders() == 0) {
            x.pass(1);
            rounds++;
        }
        is("rounds", due, rounds);
        is("in a later term", x.termOf(x.leader()) > 1, true);
    }

    static void promise66() {
        is("none", founded(3).meanCommitted(), 0.0);
        QuorumLog x = settled(3);
        is("three of seven", x.meanCommitted(), 3.0 / 7);
        put(x, 0, 0, 0, 0);
        x.pass(6);
        is("three of seven", x.meanCommitted(), 6.0 / 7);
        x.fail(6);
        is("three of six", x.meanCommitted(), 1.0);
        x.fail(0);
        is("two of five", x.meanCommitted(), 0.8);
        for (int s = 1; s < 6; s++) {
            x.fail(s);
        }
        is("none is up", x.meanCommitted(), 0.0);
    }

    static void promise67() {
        QuorumLog[] all = {founded(3), settled(3), settled(7), twoLeaders(), allKinds(), alone()};
        all[2].shorten(0);
        all[2].fail(3);
        all[2].beat(0);
        all[4].pass(7);
        for (QuorumLog x : all) {
            is("digest", x.digest(), digestByHand(x));
        }
    }

}
