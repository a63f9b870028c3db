import java.util.List;
import java.util.function.Predicate;
import java.util.function.Supplier;

/** The sentences of the promises that say what a call does and answers, and name a boundary case. */
public final class AnswersTest extends Checks {

    public static void main(String[] args) throws Exception {
        playAllThatSay(AnswersTest.class);
    }

    // ---- servers and links

    @Says(in = "Promise 1", value = "Creates seven servers, in the beginning with three members.")
    static void created() {
        is("as founded with three", story(new QuorumLog()), story(founded(3)));
        is("members", new QuorumLog().membersOf(6), 3);
        refused(new QuorumLog(), INDEX, "an eighth", () -> new QuorumLog().isUp(7));
    }

    @Says(in = "Promise 2", value = {"Begins anew.",
        "Returns most of them: the least number that is most of so many."})
    static void foundAnswersMost() {
        int[] most = {1, 2, 2, 3, 3, 4, 4};
        for (int members = 1; members <= 7; members++) {
            QuorumLog x = settled(5);
            x.fail(2);
            is("most of " + members, x.found(members), most[members - 1]);
            is("anew", story(x), story(founded(members)));
        }
    }

    @Says(in = "Promise 3", value = "Returns how many are up then.")
    static void failAnswersHowManyAreUp() {
        QuorumLog x = settled(3);
        for (int up = 6; up >= 0; up--) {
            is("up", x.fail(6 - up), up);
        }
    }

    @Says(in = "Promise 4", value = "Returns how many are up then.")
    static void recoverAnswersHowManyAreUp() {
        QuorumLog x = settled(3);
        for (int s = 0; s < 7; s++) {
            x.fail(s);
        }
        for (int up = 1; up <= 7; up++) {
            is("up", x.recover(7 - up), up);
        }
    }

    @Says(in = "Promise 5", value = {"Cuts the link between two servers.", "Returns how many links are cut then."})
    static void cutAnswersHowManyAreCut() {
        QuorumLog x = new QuorumLog();
        is("first", x.cut(6, 0), 1);
        is("second", x.cut(0, 5), 2);
        for (int other = 1; other <= 4; other++) {
            x.cut(other, 0);
        }
        is("all of 1 but one", x.cut(1, 2) + x.cut(1, 3) + x.cut(1, 4) + x.cut(1, 5), 7 + 8 + 9 + 10);
        x.found(3);
        is("anew", x.cut(0, 1), 1);
    }

    @Says(in = "Promise 6", value = {"Mends the link between two servers.", "Returns how many links are cut then."})
    static void mendAnswersHowManyAreCut() {
        QuorumLog x = new QuorumLog();
        x.cut(6, 0);
        x.cut(3, 4);
        is("one is left", x.mend(0, 6), 1);
        is("none is left", x.mend(3, 4), 0);
        is("cut again", x.cut(6, 0), 1);
    }

    @Says(in = "Promise 7", value = {"Lets rounds go by.", "Returns how many messages were lost in them."})
    static void passAnswersHowManyAreLost() {
        QuorumLog x = founded(7);
        for (int i = 0; i < 11; i++) {
            x.sound(0);
        }
        is("lost before", x.lost(), 6);
        x.fail(1);
        is("those to 1", x.pass(1), 10);
        is("lost", x.lost(), 16);
        is("round", x.round(), 1);
        QuorumLog y = founded(3);
        y.fail(1);
        y.fail(2);
        is("none as it waits", y.pass(5), 0);
        is("two in each patience of 6, 30 rounds", y.pass(30), 10);
        is("round", y.round(), 35);
        QuorumLog z = settled(3);
        z.cut(0, 1);
        is("in one", z.pass(1), 1);
        is("in one more", z.pass(1), 0);
        QuorumLog w = founded(3);
        w.sound(0);
        crowd(w, 60);
        w.deliver(0);
        is("also one that is sent as there are 60", w.pass(1), 1);
    }

    @Says(in = "Promise 8", value = {"Lets a server sound at once.", "Returns its role behind that."})
    static void soundAnswersTheRole() {
        is("a sounder", founded(2).sound(1), 1);
        is("a leader, alone", founded(1).sound(0), 3);
        is("a follower with 48 entries", longLogs(48).sound(1), 0);
        is("a sounder with 47 entries", longLogs(47).sound(1), 1);
    }

    @Says(in = "Promise 9", value = {
        "Lets a leader send to each other member that it sees, by numbers, at once.", "Returns to how many it sends."})
    static void beatAnswersToHowMany() {
        is("to none", alone().beat(0), 0);
        for (int members = 2; members <= 7; members++) {
            QuorumLog x = settled(members);
            loseAll(x);
            is("to the others of " + members, x.beat(0), members - 1);
            for (int i = 0; i < members - 1; i++) {
                is("by numbers", x.receiverOf(i), i + 1);
            }
        }
        QuorumLog y = settled(3);
        y.leave(0, 0);
        is("to all members, if it is none", y.beat(0), 2);
        y.cut(0, 1);
        y.fail(2);
        is("also to whom it does not come", y.beat(0), 2);
        crowd(y, 60);
        is("also if all are lost", y.beat(0), 2);
    }

    @Says(in = "Promise 10", value = {"A server makes a snapshot of what it has applied: this is its snapshot then, with"
            + " the term of the last entry that it has applied, its table, and the members of the last entry of members"
            + " that it has applied (without one in its log those of the elder snapshot); its log has the entries"
            + " behind it.", "Returns how many entries less its log has."})
    static void shortenAnswersHowManyLess() {
        for (int behind = 0; behind <= 2; behind++) {
            QuorumLog x = settled(3);
            put(x, 0, 0, 1, 5);
            x.pass(6);
            for (int i = 0; i < behind; i++) {
                put(x, 1 + i, 0, 1, 6 + i);
            }
            is("less", x.shorten(0), 2);
            is("snapshot and last", x.snapshotOf(0) + " " + x.lastOf(0), "2 " + (2 + behind));
            is("term of it", x.termAt(0, 2), 1);
            restart(x, 0);
            is("table of it", x.valueOf(0, 1) + " " + x.appliedSerial(0, 0) + " " + x.appliedSerial(0, 1), "5 1 0");
        }
        QuorumLog y = alone();
        restart(y, 0);
        y.sound(0);
        is("the term of the last one, not its own", y.shorten(0) + " " + y.lastTermOf(0), "2 2");
        put(y, 0, 0, 0, 1);
        is("one", y.shorten(0), 1);
    }

    @Says(in = "Promise 10", value = "the members of the last entry of members that it has applied (without one in its"
            + " log those of the elder snapshot);")
    static void shortenTakesTheMembersOfWhatIsApplied() {
        QuorumLog x = settled(3);
        is("no entry of members", x.shorten(0), 1);
        is("those of the elder snapshot", x.membersOf(0), 3);
        x.join(0, 5);
        x.pass(6);
        x.join(0, 6);
        is("two entries of members, one applied", x.committedOf(0) + " " + x.lastOf(0), "2 3");
        is("less", x.shorten(0), 1);
        is("the one behind it is seen", x.membersOf(0), 5);
        x.pass(20);
        is("both are applied", x.committedOf(1), 3);
        x.shorten(1);
        restart(x, 1);
        is("the last one that is applied", x.membersOf(1), 5);
        QuorumLog y = settled(3);
        y.shorten(0);
        y.join(0, 5);
        y.pass(6);
        y.join(0, 6);
        put(y, 0, 0, 0, 1);
        is("of 2 to 4, only the first one is applied", y.shorten(0) + " " + y.snapshotOf(0) + " " + y.lastOf(0), "1 2 4");
        leadsWithout(y);
        is("the one that was not is taken away, the snapshot has the one that was", y.membersOf(0), 4);
        QuorumLog z = settled(3);
        z.join(0, 5);
        z.pass(6);
        z.shorten(0);
        put(z, 0, 0, 0, 1);
        z.pass(6);
        z.shorten(0);
        is("those of the elder snapshot, which had an entry of them", z.membersOf(0) + " " + z.snapshotOf(0), "4 3");
    }

    /** Server 1 leads by the votes of 2 and 5, and what server 0 has not committed is taken away. */
    private static void leadsWithout(QuorumLog x) {
        restart(x, 1, 2, 5);
        loseAll(x);
        x.sound(1);
        elects(x, 1, 2, 5);
        x.beat(1);
        deliverAllBut(x, 0);
        is("0 follows 1", x.follows(0), 1);
    }

    @Says(in = "Promise 11", value = {"A leader sends a hurry, with its term.",
        "Returns the number of messages under way then."})
    static void handOverAnswersHowManyMessages() {
        QuorumLog x = settled(3);
        is("one", x.handOver(0, 1), 1);
        is("a hurry", row(x), "8:0>1 t1 i0; ");
        crowd(x, 59);
        is("60", x.handOver(0, 2), 60);
        is("at the end", lastMessage(x), "8:0>2 t1 i0; ");
        is("60 yet", x.handOver(0, 2), 60);
        is("it is lost", x.lost(), 1);
        QuorumLog y = settled(3);
        leadsAnew(y, 0, 1);
        sendsTo(y, 0, 1);
        y.deliver(0);
        y.deliver(0);
        y.handOver(0, 1);
        is("with its term", row(y), "8:0>1 t2 i0; ");
    }

    @Says(in = "Promise 12", value = {"A leader appends an entry of members: those that it sees, and one more, for which"
            + " next is the index of this entry then, and matched is 0; then it looks what is committed.",
        "Returns the index of the entry."})
    static void joinAnswersTheIndex() {
        QuorumLog x = settled(3);
        for (int joins = 3; joins < 7; joins++) {
            int index = x.lastOf(0) + 1;
            is("index", x.join(0, joins), index);
            is("members", x.membersOf(0) + " " + x.valueAt(0, index), (joins + 1) + " " + (joins + 1));
            is("next and matched", x.nextOf(0, joins) + " " + x.matchedOf(0, joins), index + " 0");
            x.pass(8);
            is("committed", x.committedOf(0), index);
        }
        refused(x, STATE, "all are members", () -> x.join(0, 6));
        QuorumLog y = settled(3);
        y.leave(0, 2);
        y.pass(4);
        put(y, 0, 0, 0, 1);
        y.pass(4);
        is("next and matched of old", y.nextOf(0, 2) + " " + y.matchedOf(0, 2), "2 1");
        is("index", y.join(0, 2), 4);
        is("next and matched anew", y.nextOf(0, 2) + " " + y.matchedOf(0, 2), "4 0");
        is("of another they stay", y.nextOf(0, 1) + " " + y.matchedOf(0, 1), "4 3");
    }

    @Says(in = "Promise 13", value = {"A leader appends an entry of members: those that it sees, and one less; then it"
            + " looks what is committed.", "Returns the index of the entry."})
    static void leaveAnswersTheIndex() {
        QuorumLog x = settled(7);
        for (int leaves = 6; leaves > 0; leaves--) {
            int index = x.lastOf(0) + 1;
            is("index", x.leave(0, leaves), index);
            is("members", x.membersOf(0) + " " + x.valueAt(0, index), leaves + " " + leaves);
            is("committed at once if the leader is left alone", x.committedOf(0), leaves == 1 ? index : index - 1);
            x.pass(6);
            is("committed", x.committedOf(0), index);
        }
        refused(x, STATE, "the only one", () -> x.leave(0, 0));
        is("leads alone", x.leader() + " " + x.membersOf(0), "0 1");
    }

    // ---- messages

    @Says(in = "Promise 14", value = "Returns how many messages are under way.")
    static void messagesFromNoneToSixty() {
        QuorumLog x = founded(2);
        is("none", x.messages(), 0);
        x.sound(0);
        for (int i = 1; i < 60; i++) {
            is("some", x.messages(), i);
            x.twice(i - 1);
        }
        is("60", x.messages(), 60);
        x.sound(0);
        is("60 yet", x.messages(), 60);
        x.lose(59);
        is("59", x.messages(), 59);
    }

    @Says(in = "Promise 15", value = {"Handles a message ahead of its turn.", "Returns whether it arrives."})
    static void deliverAnswersWhetherItArrives() {
        QuorumLog x = founded(4);
        x.sound(0);
        x.fail(2);
        x.cut(0, 3);
        is("the last one, over a cut link", x.deliver(2), false);
        is("the one before, to one that is down", x.deliver(1), false);
        is("the first one", x.deliver(0), true);
        is("its reply", row(x), "2:1>0 t1 i1; ");
        is("lost", x.lost(), 2);
        QuorumLog y = founded(2);
        y.sound(0);
        crowd(y, 60);
        is("the last one of 60", y.deliver(59), true);
        is("its reply is the last one", lastMessage(y), "2:1>0 t1 i1; ");
    }

    @Says(in = "Promise 16", value = {"Loses a message.", "Returns how many are under way then."})
    static void loseAnswersHowManyAreLeft() {
        QuorumLog x = founded(4);
        x.sound(0);
        is("the middle one", x.lose(1) + " " + row(x), "2 1:0>1 t1 i0; 1:0>3 t1 i0; ");
        is("the last one", x.lose(1) + " " + row(x), "1 1:0>1 t1 i0; ");
        is("the only one", x.lose(0) + " " + row(x), "0 ");
        is("lost", x.lost(), 3);
    }

    @Says(in = "Promise 17", value = {"Sends a message once more, just as it is.", "Returns how many are under way then."})
    static void twiceAnswersHowManyThereAre() {
        QuorumLog x = founded(3);
        x.sound(0);
        is("the first one", x.twice(0) + " " + row(x), "3 1:0>1 t1 i0; 1:0>2 t1 i0; 1:0>1 t1 i0; ");
        x.fail(0);
        is("though its sender is down", x.twice(1) + " " + lastMessage(x), "4 1:0>2 t1 i0; ");
        crowd(x, 59);
        is("the 60th", x.twice(58), 60);
        is("nothing is lost", x.lost(), 0);
        QuorumLog y = settled(3);
        put(y, 0, 0, 1, 5);
        sendsTo(y, 0, 1);
        put(y, 1, 0, 1, 6);
        y.twice(0);
        y.lose(0);
        y.deliver(0);
        is("with the entries of then", y.lastOf(1) + " " + y.valueAt(1, 2), "2 5");
        is("told as it is", row(y), "6:1>0 t1 i2; ");
        y.twice(0);
        y.lose(0);
        y.deliver(0);
        is("as a yes", y.matchedOf(0, 1), 2);
        loseAll(y);
        sendsTo(y, 0, 2);
        crowd(y, 50);
        lastArrives(y, 5, 0, 2);
        is("with how far the leader had committed", y.lastOf(2) + " " + y.committedOf(2), "3 2");
    }

    @Says(in = "Promise 17", value = "Sends a message once more, just as it is.")
    static void twiceKeepsSnapshotsAndNoes() {
        QuorumLog x = settled(3);
        put(x, 0, 0, 1, 5);
        sendsTo(x, 0, 1);
        x.deliver(0);
        x.deliver(0);
        x.shorten(0);
        sendsTo(x, 0, 2);
        x.twice(0);
        x.lose(0);
        is("a snapshot", row(x), "7:0>2 t1 i2; ");
        x.deliver(0);
        is("with its table", x.snapshotOf(2) + " " + x.valueOf(2, 1), "2 5");
        loseAll(x);
        x.join(0, 6);
        sendsTo(x, 0, 6);
        x.deliver(0);
        is("an answer", row(x), "6:6>0 t1 i0; ");
        x.twice(0);
        x.lose(0);
        x.deliver(0);
        is("as a no", x.nextOf(0, 6) + " " + row(x), "1 7:0>6 t1 i2; ");
        QuorumLog y = founded(3);
        y.sound(0);
        y.twice(0);
        y.lose(0);
        lastArrives(y, 1, 0, 1);
        y.twice(1);
        y.lose(1);
        lastArrives(y, 2, 1, 0);
        is("a yes to a sound", y.roleOf(0), 2);
        loseAllBut(y, 3, 0, 1);
        y.twice(0);
        y.lose(0);
        y.deliver(0);
        y.twice(0);
        y.lose(0);
        y.deliver(0);
        is("a call, and a yes to it", y.roleOf(0), 3);
    }

    @Says(in = "Promise 18", value = "Returns its kind, 1 to 8.")
    static void kindsOneToEight() {
        QuorumLog x = founded(3);
        x.sound(0);
        is("sound", x.kindOfMessage(1), 1);
        x.deliver(0);
        is("reply", x.kindOfMessage(1), 2);
        x.deliver(1);
        is("call", x.kindOfMessage(1), 3);
        x.deliver(1);
        is("reply", x.kindOfMessage(2), 4);
        x.deliver(2);
        is("entries", x.kindOfMessage(2), 5);
        x.deliver(2);
        is("answer", x.kindOfMessage(3), 6);
        x.deliver(3);
        x.handOver(0, 1);
        is("hurry", x.kindOfMessage(3), 8);
        x.shorten(0);
        x.beat(0);
        is("snapshot", lastMessage(x), "7:0>2 t1 i1; ");
    }

    @Says(in = "Promise 22", value = "Returns of a sound or a call the last index that it tells; of entries the index of"
            + " the last one in it (without one the previous one); of an answer to entries or a snapshot the index that"
            + " it tells; of a snapshot its index; of replies 1 if it is a yes, 0 if it is a no; of a hurry 0.")
    static void tellsByKinds() {
        QuorumLog x = new QuorumLog();
        x.sound(0);
        is("a sound of an empty log", x.tells(0), 0);
        x.deliver(0);
        is("a yes", x.tells(1), 1);
        x.deliver(1);
        is("a call of an empty log", x.tells(1), 0);
        x.deliver(1);
        is("a yes", x.tells(2), 1);
        x.deliver(2);
        is("one entry", lastMessage(x), "5:0>2 t1 i1; ");
        arrives(x, 5, 0, 1);
        arrives(x, 6, 1, 0);
        loseAll(x);
        x.beat(0);
        is("no entry, previous 1", x.tells(0), 1);
        is("one entry, previous 0", x.tells(1), 1);
        x.lose(1);
        x.join(0, 6);
        sendsTo(x, 0, 6);
        is("one entry, previous 1", x.tells(1), 2);
        x.deliver(1);
        is("a no with the index 0", lastMessage(x), "6:6>0 t1 i0; ");
        x.shorten(0);
        loseAll(x);
        sendsTo(x, 0, 2);
        is("a snapshot", lastMessage(x), "7:0>2 t1 i1; ");
        x.deliver(0);
        is("a yes to it", row(x), "6:2>0 t1 i1; ");
        loseAll(x);
        x.sound(1);
        is("a sound", x.tells(0), 1);
        arrives(x, 1, 1, 0);
        is("a no to it", lastMessage(x), "2:0>1 t1 i0; ");
        QuorumLog y = settled(3);
        put(y, 0, 0, 0, 1);
        for (int i = 0; i < 5; i++) {
            y.hand(0, 0);
        }
        y.beat(0);
        is("four entries of six", y.tells(0), 5);
        y.deliver(0);
        is("a yes to them", lastMessage(y), "6:1>0 t1 i5; ");
        QuorumLog z = settled(3);
        z.handOver(0, 2);
        is("a hurry", z.tells(0), 0);
        z.deliver(0);
        is("a call", z.tells(0), 1);
        put(z, 0, 0, 0, 1);
        z.deliver(0);
        is("a no to it", lastMessage(z), "4:0>2 t2 i0; ");
    }

    @Says(in = "Promise 19", value = "Returns its sender.")
    static void sendersOfEachPlace() {
        QuorumLog x = founded(7);
        x.sound(6);
        x.sound(0);
        for (int i = 0; i < 12; i++) {
            is("sender", x.senderOf(i), i < 6 ? 6 : 0);
        }
        x.fail(6);
        is("also if it is down", x.senderOf(0), 6);
    }

    @Says(in = "Promise 20", value = "Returns its receiver.")
    static void receiversOfEachPlace() {
        QuorumLog x = founded(7);
        x.sound(6);
        x.sound(0);
        for (int i = 0; i < 12; i++) {
            is("receiver", x.receiverOf(i), i < 6 ? i : i - 5);
        }
    }

    @Says(in = "Promise 21", value = "Returns its term.")
    static void termsOfEachKind() {
        QuorumLog x = founded(3);
        x.sound(0);
        is("a sound of term 0", x.termOfMessage(0) + " " + x.termOf(0), "1 0");
        x.deliver(0);
        is("a yes", x.termOfMessage(1), 1);
        x.deliver(1);
        is("a call", x.termOfMessage(1), 1);
        restart(x, 0);
        x.sound(0);
        arrives(x, 3, 0, 1);
        loseAllBut(x, 3, 0, 2);
        x.sound(2);
        arrives(x, 1, 2, 1);
        is("a no, with the term of who says it", lastMessage(x) + x.termOf(2), "2:1>2 t1 i0; 0");
    }

    // ---- clients

    @Says(in = "Promise 23", value = {"A new request: put.", "Returns the serial of the request."})
    static void askPutAnswersTheSerial() {
        QuorumLog x = alone();
        is("first", x.askPut(0, 0, 9999), 1);
        x.hand(0, 0);
        is("second", x.askPut(0, 0, -9999), 2);
        x.hand(0, 0);
        is("kind, value, the one before", x.kindAt(0, 3) + " " + x.valueAt(0, 3) + " " + x.answerTo(0), "1 -9999 9999");
    }

    @Says(in = "Promise 24", value = {"A new request: add.", "Returns the serial of the request."})
    static void askAddAnswersTheSerial() {
        QuorumLog x = alone();
        is("first", x.askAdd(0, 0, 9999), 1);
        x.hand(0, 0);
        is("second", x.askAdd(0, 0, 9999), 2);
        x.hand(0, 0);
        is("kind, value, the sum", x.kindAt(0, 3) + " " + x.valueAt(0, 3) + " " + x.answerTo(0), "2 9999 19998");
    }

    @Says(in = "Promise 25", value = {"A new request: swap.", "Returns the serial of the request."})
    static void askSwapAnswersTheSerial() {
        QuorumLog x = alone();
        is("first", x.askSwap(0, 0, 0, -9999), 1);
        x.hand(0, 0);
        is("kind, value, 1", x.kindAt(0, 2) + " " + x.valueAt(0, 2) + " " + x.answerTo(0), "3 -9999 1");
        is("second", x.askSwap(0, 0, -9998, 9999), 2);
        x.hand(0, 0);
        is("not expected, 0", x.valueOf(0, 0) + " " + x.answerTo(0), "-9999 0");
        is("third", x.askSwap(0, 0, -9999, 9999), 3);
        x.hand(0, 0);
        is("expected, 1", x.valueOf(0, 0) + " " + x.answerTo(0), "9999 1");
    }

    @Says(in = "Promise 26", value = {"Hands the latest request of a client to a server.",
        "Returns the index of the entry."})
    static void handAnswersTheIndex() {
        QuorumLog x = alone();
        for (int index = 2; index <= 40; index++) {
            x.askAdd(0, 0, index);
            is("index", x.hand(0, 0), index);
            is("the latest", x.valueAt(0, index), index);
        }
        x.shorten(0);
        x.askAdd(0, 0, 41);
        is("behind the snapshot", x.hand(0, 0), 41);
    }

    @Says(in = "Promise 27", value = "Returns its serial.")
    static void serialFromZeroOn() {
        QuorumLog x = alone();
        for (int serial = 0; serial < 20; serial++) {
            is("serial", x.serialOf(3), serial);
            put(x, 3, 0, 0, 0);
        }
        is("of another", x.serialOf(2), 0);
    }

    @Says(in = "Promise 28", value = "Returns whether its latest request is answered; false without one.")
    static void isAnsweredWithoutOne() {
        QuorumLog x = alone();
        is("without one", x.isAnswered(0), false);
        put(x, 1, 0, 0, 0);
        is("without one, but another is answered", x.isAnswered(0), false);
        is("answered", x.isAnswered(1), true);
        x.askPut(1, 0, 0);
        is("the latest is not", x.isAnswered(1), false);
        x.found(1);
        is("anew", x.isAnswered(1), false);
    }

    @Says(in = "Promise 29", value = "Returns with what its latest request was answered.")
    static void answerToTheLatest() {
        QuorumLog x = alone();
        put(x, 0, 0, 0, -9999);
        is("0", x.answerTo(0), 0);
        put(x, 0, 0, 0, 5);
        is("the least", x.answerTo(0), -9999);
        put(x, 1, 0, 0, 6);
        is("stays", x.answerTo(0), -9999);
    }

    // ---- what a server has

    @Says(in = "Promise 30", value = "Returns the round.")
    static void roundFromZeroOn() {
        QuorumLog x = new QuorumLog();
        is("first", x.round(), 0);
        x.pass(30);
        x.roundsToLeader();
        is("then", x.round(), 30);
        x.found(1);
        is("anew", x.round(), 0);
    }

    @Says(in = "Promise 31", value = "Returns how many messages were lost, since the beginning (also by lose(), and those"
            + " that were sent as there were 60).")
    static void lostSinceTheBeginning() {
        QuorumLog x = founded(7);
        is("none", x.lost(), 0);
        for (int i = 0; i < 10; i++) {
            x.sound(0);
        }
        is("none at 60", x.lost(), 0);
        x.lose(59);
        is("by lose", x.lost(), 1);
        x.sound(0);
        is("five sent as there were 60", x.lost(), 6);
        x.fail(1);
        x.deliver(0);
        is("to one that is down", x.lost(), 7);
        x.cut(0, 2);
        x.deliver(0);
        is("over a cut link", x.lost(), 8);
        x.deliver(0);
        is("not what arrives", x.lost(), 8);
        x.roundsToLeader();
        is("not in what would be", x.lost(), 8);
        x.twice(0);
        is("60", x.messages(), 59);
        x.found(7);
        is("since the beginning", x.lost(), 0);
    }

    @Says(in = "Promise 32", value = "Returns whether it is up.")
    static void isUpOfEach() {
        QuorumLog x = new QuorumLog();
        x.fail(0);
        x.fail(6);
        for (int s = 0; s < 7; s++) {
            is("up", x.isUp(s), s > 0 && s < 6);
        }
    }

    @Says(in = "Promise 33", value = "Returns its role.")
    static void rolesFromZeroToThree() {
        QuorumLog x = founded(3);
        is("follower", x.roleOf(0), 0);
        x.sound(0);
        is("sounder", x.roleOf(0), 1);
        x.pass(2);
        is("candidate", x.roleOf(0), 2);
        x.pass(2);
        is("leader", x.roleOf(0), 3);
        x.fail(0);
        is("down", x.roleOf(0), 0);
    }

    @Says(in = "Promise 34", value = "Returns its term.")
    static void termsFromZeroOn() {
        QuorumLog x = alone();
        is("who has heard nothing", x.termOf(6), 0);
        for (int term = 1; term <= 20; term++) {
            is("term", x.termOf(0), term);
            restart(x, 0);
            is("is kept", x.termOf(0), term);
            x.sound(0);
        }
    }

    @Says(in = "Promise 35", value = "Returns for whom it voted in its term; -1 for nobody.")
    static void votedForNobody() {
        QuorumLog x = settled(3);
        is("server 0", x.votedFor(1), 0);
        is("nobody", x.votedFor(6), -1);
        x.handOver(0, 1);
        x.deliver(0);
        put(x, 0, 0, 0, 1);
        arrives(x, 3, 1, 0);
        is("nobody in the next term", x.votedFor(0), -1);
    }

    @Says(in = "Promise 36", value = "Returns whom it follows; -1 for nobody.")
    static void followsNobody() {
        QuorumLog x = settled(3);
        is("server 0", x.follows(1), 0);
        is("a leader", x.follows(0), -1);
        is("no member", x.follows(6), -1);
        restart(x, 1);
        is("up again", x.follows(1), -1);
    }

    @Says(in = "Promise 37", value = "Returns how many rounds it has waited.")
    static void waitedFromZeroOn() {
        QuorumLog x = founded(3);
        for (int i = 0; i < 6; i++) {
            is("waited", x.waitedOf(0) + " " + x.waitedOf(2), i + " " + i);
            x.pass(1);
        }
        is("as it sounds", x.waitedOf(0) + " " + x.waitedOf(2), "0 6");
    }

    @Says(in = "Promise 38", value = "Returns its patience.")
    static void patienceOfEach() {
        int[] due = {6, 9, 12, 8, 11, 7, 10};
        for (int s = 0; s < 7; s++) {
            is("patience", new QuorumLog().patienceOf(s), due[s]);
        }
    }

    @Says(in = "Promise 39", value = "Returns the index of its snapshot.")
    static void snapshotFromZeroOn() {
        QuorumLog x = alone();
        is("first", x.snapshotOf(0), 0);
        x.shorten(0);
        is("then", x.snapshotOf(0), 1);
        x.fail(0);
        is("down", x.snapshotOf(0), 1);
    }

    @Says(in = "Promise 40", value = "Returns its last index.")
    static void lastFromZeroOn() {
        QuorumLog x = alone();
        is("nothing", x.lastOf(6), 0);
        for (int last = 1; last <= 40; last++) {
            is("last", x.lastOf(0), last);
            if (last < 40) {
                put(x, 0, 0, 0, 0);
            }
        }
        x.shorten(0);
        is("without entries", x.lastOf(0), 40);
    }

    @Says(in = "Promise 41", value = "Returns its last term.")
    static void lastTermFromZeroOn() {
        QuorumLog x = alone();
        is("nothing", x.lastTermOf(6), 0);
        restart(x, 0);
        is("not its own term, but that of the entry", x.lastTermOf(0), 1);
        x.sound(0);
        is("last term", x.lastTermOf(0), 2);
        x.shorten(0);
        is("without entries", x.lastTermOf(0), 2);
    }

    @Says(in = "Promise 42", value = "Returns how far it has committed.")
    static void committedFromZeroOn() {
        QuorumLog x = settled(3);
        is("no member", x.committedOf(6), 0);
        is("leader", x.committedOf(0), 1);
        x.fail(0);
        is("down", x.committedOf(0), 0);
    }

    @Says(in = "Promise 43", value = "Returns how many members it sees.")
    static void membersFromOneToSeven() {
        for (int members = 1; members <= 7; members++) {
            is("members", founded(members).membersOf(6), members);
        }
    }

    @Says(in = "Promise 44", value = "Returns whether the other one is among the members that it sees.")
    static void seesTheOtherOrItself() {
        QuorumLog x = founded(3);
        for (int s = 0; s < 7; s++) {
            is("itself", x.sees(s, s), s < 3);
            is("the last member", x.sees(s, 2), true);
            is("one behind it", x.sees(s, 3), false);
        }
        is("of seven", founded(7).sees(0, 6), true);
    }

    @Says(in = "Promise 45", value = "Returns the term of the entry with this index in its log; of its snapshot if it is"
            + " the index of that.")
    static void termAtTheSnapshot() {
        QuorumLog x = alone();
        is("the first snapshot", x.termAt(0, 0), 0);
        restart(x, 0);
        x.sound(0);
        is("entries", x.termAt(0, 1) + " " + x.termAt(0, 2), "1 2");
        x.shorten(0);
        is("the snapshot", x.termAt(0, 2), 2);
    }

    @Says(in = "Promise 46", value = "Returns the kind of the entry with this index in its log, 0 to 4.")
    static void kindsZeroToFour() {
        QuorumLog x = allKinds();
        for (int kind = 0; kind <= 4; kind++) {
            is("kind", x.kindAt(0, 1 + kind), kind);
        }
    }

    @Says(in = "Promise 47", value = "Returns the value of the entry with this index in its log; of an entry of members"
            + " how many they are; of an empty one 0.")
    static void valueAtEachKind() {
        QuorumLog x = allKinds();
        int[] due = {0, 10, 20, 30, 4};
        for (int i = 0; i < 5; i++) {
            is("value", x.valueAt(0, 1 + i), due[i]);
        }
        QuorumLog y = settled(7);
        y.leave(0, 6);
        is("six members", y.valueAt(0, 2), 6);
        QuorumLog z = settled(2);
        z.leave(0, 1);
        is("one member", z.valueAt(0, 2), 1);
    }

    @Says(in = "Promise 48", value = "Returns the client of the entry with this index in its log; -1 if it is no"
            + " request.")
    static void clientAtEachKind() {
        QuorumLog x = allKinds();
        int[] due = {-1, 0, 1, 3, -1};
        for (int i = 0; i < 5; i++) {
            is("client", x.clientAt(0, 1 + i), due[i]);
        }
    }

    @Says(in = "Promise 49", value = "Returns the serial of the entry with this index in its log; 0 if it is no request.")
    static void serialAtEachKind() {
        QuorumLog x = allKinds();
        int[] due = {0, 1, 1, 1, 0};
        for (int i = 0; i < 5; i++) {
            is("serial", x.serialAt(0, 1 + i), due[i]);
        }
    }

    @Says(in = "Promise 50", value = "Returns the value in its table (of one that is down that of its snapshot).")
    static void valueOfOneThatIsDown() {
        QuorumLog x = alone();
        put(x, 0, 0, 7, 5);
        is("up", x.valueOf(0, 7), 5);
        x.fail(0);
        is("down", x.valueOf(0, 7), 0);
        x.recover(0);
        x.sound(0);
        is("applied again", x.valueOf(0, 7), 5);
        x.shorten(0);
        put(x, 0, 0, 7, 6);
        x.fail(0);
        is("down, with a snapshot", x.valueOf(0, 7), 5);
    }

    @Says(in = "Promise 51", value = "Returns the serial of the latest request of this client that was applied in its"
            + " table (of one that is down that of its snapshot).")
    static void appliedSerialOfOneThatIsDown() {
        QuorumLog x = alone();
        is("none", x.appliedSerial(0, 3), 0);
        put(x, 3, 0, 7, 5);
        is("up", x.appliedSerial(0, 3), 1);
        x.shorten(0);
        put(x, 3, 0, 7, 6);
        is("up", x.appliedSerial(0, 3), 2);
        x.fail(0);
        is("down", x.appliedSerial(0, 3), 1);
    }

    @Says(in = "Promise 52", value = "Returns next of this server.")
    static void nextOfEach() {
        QuorumLog x = alone();
        for (int s = 1; s < 7; s++) {
            is("next", x.nextOf(0, s), 1);
        }
        restart(x, 0);
        x.sound(0);
        is("next, leading again", x.nextOf(0, 6), 2);
    }

    @Says(in = "Promise 53", value = "Returns matched of this server.")
    static void matchedOfEach() {
        QuorumLog x = settled(3);
        for (int s = 1; s < 7; s++) {
            is("matched", x.matchedOf(0, s), s < 3 ? 1 : 0);
        }
    }

    // ---- all together

    @Says(in = "Promise 54", value = "Returns the leader with the greatest term; -1 without one.")
    static void leaderWithTheGreatestTerm() {
        is("without one", new QuorumLog().leader(), -1);
        QuorumLog x = settled(3);
        is("one", x.leader(), 0);
        isolate(x, 0);
        leadsAnew(x, 2, 1);
        is("0 in term 1, 2 in term 2", x.leader(), 2);
        x.fail(2);
        is("the one that is left", x.leader(), 0);
        x.fail(0);
        is("none is left", x.leader(), -1);
        QuorumLog y = settled(3);
        y.handOver(0, 1);
        y.deliver(0);
        arrives(y, 3, 1, 2);
        arrives(y, 4, 2, 1);
        y.handOver(0, 2);
        y.lose(y.messages() - 1);
        is("1 in term 2, 0 in term 1", y.leaders() + " " + y.leader(), "2 1");
    }

    @Says(in = "Promise 55", value = "Returns how many leaders there are.")
    static void leadersFromNoneOn() {
        QuorumLog x = new QuorumLog();
        is("none", x.leaders(), 0);
        x = settled(3);
        is("one", x.leaders(), 1);
        isolate(x, 0);
        leadsAnew(x, 2, 1);
        is("two", x.leaders(), 2);
    }

    @Says(in = "Promise 56", value = "Returns how far the server has committed that has done so furthest.")
    static void committedFurthest() {
        is("nothing", new QuorumLog().committed(), 0);
        QuorumLog x = settled(3);
        is("all", x.committed(), 1);
        put(x, 0, 0, 0, 1);
        is("not what is only in a log", x.committed(), 1);
        sendsTo(x, 0, 1);
        x.deliver(0);
        x.deliver(0);
        is("one alone", x.committed(), 2);
        x.fail(0);
        is("the others", x.committed(), 1);
    }

    @Says(in = "Promise 57", value = {"Returns the greatest index up to which both agree.",
        "It is no greater than the smaller one of both last indices.",
        "Up to the greater index of both snapshots they always agree; behind it index by index, as long as both logs"
            + " have entries with the same term."})
    static void agreement() {
        QuorumLog x = new QuorumLog();
        is("two empty logs", x.agreeUpTo(0, 6), 0);
        is("the same one", x.agreeUpTo(3, 3), 0);
        x = settled(3);
        is("an empty one", x.agreeUpTo(0, 6) + " " + x.agreeUpTo(6, 0), "0 0");
        put(x, 0, 0, 0, 1);
        put(x, 1, 0, 0, 1);
        is("the smaller last index", x.agreeUpTo(0, 1) + " " + x.agreeUpTo(1, 0), "1 1");
        leadsAnew(x, 1, 2);
        put(x, 2, 1, 0, 1);
        is("1 to 3 of term 1; 1 of term 1, 2 and 3 of term 2", x.agreeUpTo(0, 1) + " " + x.agreeUpTo(1, 0), "1 1");
        x.cut(0, 1);
        x.beat(1);
        deliverAllBut(x, 0);
        is("committed", x.committedOf(1), 3);
        x.shorten(1);
        is("up to the snapshot they agree, though the terms differ", x.agreeUpTo(0, 1) + " " + x.agreeUpTo(1, 0), "3 3");
        x.hand(0, 0);
        put(x, 3, 1, 0, 1);
        is("behind it they do not", x.agreeUpTo(0, 1) + " " + x.agreeUpTo(1, 0), "3 3");
        is("of a snapshot and who has less", x.agreeUpTo(1, 6) + " " + x.agreeUpTo(6, 1), "0 0");
        QuorumLog y = settled(3);
        y.shorten(1);
        put(y, 0, 0, 0, 1);
        put(y, 1, 0, 0, 1);
        y.beat(0);
        deliverAllBut(y, 0);
        is("behind a snapshot index by index", y.agreeUpTo(0, 1) + " " + y.agreeUpTo(1, 2), "3 3");
        y.shorten(0);
        is("of two snapshots", y.snapshotOf(0) + " " + y.snapshotOf(1) + " " + y.agreeUpTo(0, 1), "3 1 3");
    }

    /** Server 2 has nothing behind 1; up to 3 all is committed by the others. */
    private static QuorumLog twoHaveThree() {
        QuorumLog x = settled(3);
        isolate(x, 2);
        put(x, 0, 0, 0, 1);
        put(x, 1, 0, 0, 1);
        x.pass(4);
        rejoin(x, 2);
        loseAll(x);
        return x;
    }

    @Says(in = "Promise 58", value = "Returns how many of the members that it sees (down or up) have its entry with this"
            + " index: an entry in their log with this index and the same term, or a snapshot that goes as far or"
            + " further.")
    static void copies() {
        QuorumLog x = twoHaveThree();
        is("all, two, two", x.copiesOf(0, 1) + " " + x.copiesOf(0, 2) + " " + x.copiesOf(0, 3), "3 2 2");
        x.fail(1);
        is("down", x.copiesOf(0, 3), 2);
        x.recover(1);
        x.pass(4);
        is("all three", x.copiesOf(0, 3), 3);
        x.shorten(1);
        is("a snapshot that goes further", x.copiesOf(0, 2), 3);
        is("a snapshot that goes as far", x.copiesOf(0, 3), 3);
        put(x, 2, 0, 0, 1);
        is("none goes so far", x.copiesOf(0, 4), 1);
        leadsAnew(x, 1, 2);
        is("with another term", x.copiesOf(1, 4) + " " + x.copiesOf(0, 4), "1 1");
        x.cut(0, 1);
        x.beat(1);
        deliverAllBut(x, 0);
        is("committed by 1 and 2", x.committedOf(1) + " " + x.copiesOf(1, 4) + " " + x.copiesOf(0, 4), "4 2 1");
        x.shorten(1);
        is("a snapshot that goes as far counts, though its term is another", x.copiesOf(0, 4), 2);
        is("and one that goes further", x.copiesOf(0, 3), 3);
        QuorumLog y = settled(3);
        y.leave(0, 0);
        is("it is no member itself", y.copiesOf(0, 1) + " " + y.copiesOf(0, 2), "2 0");
        is("another one sees it as a member yet", y.copiesOf(1, 1), 3);
    }

    @Says(in = "Promise 59", value = "Returns whether the logs of most of the members that it sees (down or up, itself"
            + " among them if it is one) are such that its own log is as good.")
    static void couldWinIfMostAreNoBetter() {
        for (int members = 1; members <= 7; members++) {
            QuorumLog x = settled(members);
            put(x, 0, 0, 0, 1);
            is("the best one of " + members, x.couldWin(0), true);
            is("no member, less good than all of " + members, members == 7 || x.couldWin(6), members == 7);
            x.beat(0);
            for (int s = 1; s < members; s++) {
                is("with " + s + " better of " + members, x.couldWin(s), 2 * (members - s) > members);
                arrives(x, 5, 0, s);
                is("then with none better", x.couldWin(s), true);
            }
        }
        QuorumLog y = settled(4);
        put(y, 0, 0, 0, 1);
        y.beat(0);
        arrives(y, 5, 0, 1);
        is("two of four are no better", y.couldWin(3), false);
        y.fail(0);
        y.fail(1);
        is("also if the others are down", y.couldWin(3), false);
        y.fail(3);
        is("also if it is down itself", y.couldWin(3), false);
        is("the best ones are down", y.couldWin(0), true);
        QuorumLog z = settled(2);
        z.leave(0, 0);
        is("one member, to whom it is better", z.couldWin(0), true);
        is("of two, one is better", z.couldWin(1), false);
        sendsTo(z, 0, 1);
        z.deliver(0);
        is("the only member", z.couldWin(1), true);
        QuorumLog w = settled(4);
        w.leave(0, 3);
        sendsTo(w, 0, 1);
        arrives(w, 5, 0, 1);
        is("server 3 is no member for 1, but is for 2", w.couldWin(1) + " " + w.couldWin(2), "true false");
    }

    @Says(in = "Promise 60", value = "Returns how many different values of it the tables of servers that are up have.")
    static void valuesFromNoneOn() {
        valuesOfFour(1);
        valuesOfFour(-1);
    }

    private static void valuesOfFour(int sign) {
        QuorumLog x = settled(3);
        is("0 everywhere", x.valuesOf(0), 1);
        for (int value = 1; value <= 3; value++) {
            put(x, 0, 0, 0, sign * value);
            sendsTo(x, 0, 1);
            x.deliver(0);
            x.deliver(0);
            if (value == 1) {
                x.beat(0);
                arrives(x, 5, 0, 2);
                loseAll(x);
            }
        }
        is("values", sign * x.valueOf(0, 0) + " " + sign * x.valueOf(1, 0) + " " + sign * x.valueOf(2, 0) + " "
                + x.valueOf(3, 0), "3 2 1 0");
        is("four", x.valuesOf(0), 4);
        is("of another key", x.valuesOf(7), 1);
        x.fail(1);
        is("who is down does not count", x.valuesOf(0), 3);
        for (int s = 3; s < 7; s++) {
            x.fail(s);
        }
        is("two are up", x.valuesOf(0), 2);
        x.fail(0);
        x.fail(2);
        is("none is up", x.valuesOf(0), 0);
        x.recover(0);
        is("one is up", x.valuesOf(0), 1);
    }

    // ---- what would be

    private static final String TO_LEADER = "Returns behind how many rounds there is for the first time a leader whom all"
            + " others follow that are up and among the members that it sees, if only rounds go by; 0 if there is one"
            + " now; -1 if not within 30.";

    @Says(in = "Promise 61", value = TO_LEADER)
    static void noLeaderWithinThirtyRounds() {
        countsDown(Checks::lateElection, QuorumLog::roundsToLeader, Checks::isLed);
        QuorumLog x = founded(3);
        x.fail(1);
        x.fail(2);
        unchanged(x, "one of three", x::roundsToLeader, -1);
        x.fail(0);
        unchanged(x, "none of three", x::roundsToLeader, -1);
    }

    @Says(in = "Promise 61", value = TO_LEADER)
    static void thereIsALeaderNow() {
        unchanged(alone(), "alone", alone()::roundsToLeader, 0);
        QuorumLog x = founded(3);
        x.pass(9);
        unchanged(x, "leads, but is not followed", x::roundsToLeader, 1);
        x.fail(1);
        unchanged(x, "not by the other one either", x::roundsToLeader, 1);
        x.fail(2);
        unchanged(x, "nobody else is up", x::roundsToLeader, 0);
        QuorumLog y = settled(3);
        unchanged(y, "followed", y::roundsToLeader, 0);
        y.join(0, 5);
        unchanged(y, "not by who joins", y::roundsToLeader, 1);
        QuorumLog z = settled(3);
        isolate(z, 0);
        leadsAnew(z, 1, 2);
        is("an elder one leads, too", z.leaders(), 2);
        z.fail(2);
        unchanged(z, "not followed by the other leader", z::roundsToLeader, -1);
        z.fail(0);
        unchanged(z, "who is down need not follow", z::roundsToLeader, 0);
    }

    private static final String TO_ANSWER = "Returns behind how many rounds its latest request is answered, if only rounds"
            + " go by; 0 if it is answered, or there is none; -1 if not within 30.";

    @Says(in = "Promise 62", value = TO_ANSWER)
    static void noAnswerWithinThirtyRounds() {
        countsDown(Checks::lateAnswer, x -> x.roundsToAnswer(0), x -> x.isAnswered(0));
        QuorumLog x = settled(3);
        x.askPut(3, 0, 0);
        unchanged(x, "not handed over", () -> x.roundsToAnswer(3), -1);
    }

    @Says(in = "Promise 62", value = TO_ANSWER)
    static void answeredOrNone() {
        QuorumLog x = settled(3);
        unchanged(x, "none", () -> x.roundsToAnswer(3), 0);
        put(x, 3, 0, 0, 1);
        unchanged(x, "ahead of a beat", () -> x.roundsToAnswer(3), 2);
        x.pass(1);
        unchanged(x, "one", () -> x.roundsToAnswer(3), 1);
        x.pass(1);
        unchanged(x, "answered", () -> x.roundsToAnswer(3), 0);
        x.pass(1);
        put(x, 3, 0, 0, 2);
        unchanged(x, "behind a beat the next one is sent at the first answer", () -> x.roundsToAnswer(3), 3);
        put(x, 2, 0, 0, 2);
        unchanged(x, "of another", () -> x.roundsToAnswer(1), 0);
    }

    private static final String TO_AGREE = "Returns behind how many rounds all servers that are up and among the members"
            + " that the leader with the greatest term sees, and that leader, have committed as far as its last index,"
            + " for the first time, if only rounds go by; 0 if it is so now; -1 if not within 30 (without a leader it"
            + " is not so).";

    @Says(in = "Promise 63", value = TO_AGREE)
    static void noAgreementWithinThirtyRounds() {
        countsDown(Checks::lateElection, QuorumLog::roundsToAgree, Checks::isAgreed);
        countsDown(Checks::lateAnswer, QuorumLog::roundsToAgree, Checks::isAgreed);
    }

    @Says(in = "Promise 63", value = TO_AGREE)
    static void agreementNeedsALeader() {
        QuorumLog x = new QuorumLog();
        unchanged(x, "all have nothing, but nobody leads", x::roundsToAgree, 13);
        for (int s = 0; s < 7; s++) {
            x.fail(s);
        }
        unchanged(x, "none is up", x::roundsToAgree, -1);
    }

    @Says(in = "Promise 63", value = TO_AGREE)
    static void agreementNow() {
        unchanged(alone(), "alone", alone()::roundsToAgree, 0);
        QuorumLog x = settled(3);
        unchanged(x, "all have committed all, but who is no member", x::roundsToAgree, 0);
        restart(x, 1);
        unchanged(x, "one has not", x::roundsToAgree, 1);
        x.fail(1);
        unchanged(x, "who is down does not count", x::roundsToAgree, 0);
        put(x, 0, 0, 0, 1);
        unchanged(x, "the leader has not, nor the other", x::roundsToAgree, 3);
        QuorumLog y = settled(3);
        y.leave(0, 0);
        y.fail(1);
        y.fail(2);
        unchanged(y, "the leader must, though it is no member", y::roundsToAgree, -1);
        QuorumLog z = settled(3);
        isolate(z, 0);
        put(z, 0, 0, 0, 1);
        leadsAnew(z, 1, 2);
        sendsTo(z, 1, 2);
        z.deliver(0);
        z.deliver(0);
        sendsTo(z, 1, 2);
        z.deliver(0);
        is("1 and 2 have committed 2", z.committedOf(1) + " " + z.committedOf(2) + " " + z.committedOf(0), "2 2 1");
        unchanged(z, "one that is up has not", z::roundsToAgree, -1);
        z.fail(0);
        unchanged(z, "it is down", z::roundsToAgree, 0);
    }

    @Says(in = "Promise 64", value = "Returns its role behind three rounds, if it sounded now, and only rounds went by;"
            + " -1 if sound() would be refused.")
    static void roleBehindThreeRounds() {
        QuorumLog x = founded(3);
        unchanged(x, "a candidate", () -> x.roleIfSounding(0), 2);
        unchanged(x, "no member", () -> x.roleIfSounding(3), -1);
        QuorumLog y = settled(3);
        unchanged(y, "a leader", () -> y.roleIfSounding(0), -1);
        unchanged(y, "a follower again, by the beat", () -> y.roleIfSounding(1), 0);
        y.fail(0);
        y.fail(1);
        unchanged(y, "down", () -> y.roleIfSounding(1), -1);
        unchanged(y, "a sounder", () -> y.roleIfSounding(2), 1);
        QuorumLog one = founded(1);
        unchanged(one, "alone, a leader", () -> one.roleIfSounding(0), 3);
        QuorumLog full = longLogs(48);
        unchanged(full, "48 entries, a follower", () -> full.roleIfSounding(1), 0);
        QuorumLog full2 = longLogs(48);
        full2.fail(0);
        unchanged(full2, "48 entries, none leads", () -> full2.roleIfSounding(1), 0);
        QuorumLog z = founded(3);
        z.sound(0);
        z.deliver(0);
        unchanged(z, "with a yes under way the votes come in the third round", () -> z.roleIfSounding(0), 3);
        is("no sound is sent", row(z), "1:0>2 t1 i0; 2:1>0 t1 i1; ");
    }

    /** In each of these states, what would be is what comes to be. */
    private static List<Supplier<QuorumLog>> manyStates() {
        return List.of(QuorumLog::new, () -> founded(7), () -> settled(3), Checks::alone, Checks::allKinds,
                Checks::twoLeaders, () -> longLogs(60), AnswersTest::crowded, AnswersTest::behindSnapshot,
                AnswersTest::leaving, AnswersTest::halfElected, AnswersTest::cutInTwo);
    }

    /** Server 0 has a snapshot up to 3 and entries behind it, server 2 needs the snapshot, which is sent twice. */
    private static QuorumLog behindSnapshot() {
        QuorumLog x = twoHaveThree();
        x.shorten(0);
        put(x, 0, 0, 0, 7);
        sendsTo(x, 0, 2);
        x.twice(0);
        x.lose(0);
        restart(x, 1);
        return x;
    }

    private static QuorumLog leaving() {
        QuorumLog x = settled(5);
        x.pass(1);
        x.leave(0, 0);
        put(x, 0, 0, 0, 7);
        return x;
    }

    private static QuorumLog halfElected() {
        QuorumLog x = settled(5);
        put(x, 0, 0, 0, 7);
        x.fail(0);
        x.pass(6);
        x.deliver(x.messages() - 1);
        return x;
    }

    private static QuorumLog cutInTwo() {
        QuorumLog x = settled(5);
        put(x, 0, 0, 0, 7);
        x.beat(0);
        for (int s = 2; s < 5; s++) {
            x.cut(0, s);
            x.cut(1, s);
        }
        return x;
    }

    private static int comesTo(QuorumLog x, Predicate<QuorumLog> isReached) {
        for (int rounds = 0; rounds <= 30; rounds++) {
            if (isReached.test(x)) {
                return rounds;
            }
            x.pass(1);
        }
        return -1;
    }

    @Says(in = "Promise 61", value = TO_LEADER)
    static void leaderComesAsItWould() {
        for (Supplier<QuorumLog> state : manyStates()) {
            is("rounds", state.get().roundsToLeader(), comesTo(state.get(), Checks::isLed));
        }
    }

    @Says(in = "Promise 62", value = TO_ANSWER)
    static void answerComesAsItWould() {
        for (Supplier<QuorumLog> state : manyStates()) {
            for (int c = 0; c < 4; c++) {
                int client = c;
                is("rounds", state.get().roundsToAnswer(c),
                        comesTo(state.get(), x -> x.serialOf(client) == 0 || x.isAnswered(client)));
            }
        }
    }

    @Says(in = "Promise 63", value = TO_AGREE)
    static void agreementComesAsItWould() {
        for (Supplier<QuorumLog> state : manyStates()) {
            is("rounds", state.get().roundsToAgree(), comesTo(state.get(), Checks::isAgreed));
        }
    }

    @Says(in = "Promise 64", value = "Returns its role behind three rounds, if it sounded now, and only rounds went by;"
            + " -1 if sound() would be refused.")
    static void roleComesAsItWould() {
        for (Supplier<QuorumLog> state : manyStates()) {
            for (int s = 0; s < 7; s++) {
                int server = s;
                QuorumLog x = state.get();
                boolean refused = outcome(() -> x.sound(server)) == STATE;
                x.pass(3);
                is("role of " + s, state.get().roleIfSounding(s), refused ? -1 : x.roleOf(s));
            }
        }
    }

    @Says(in = "Promise 65", value = WITHOUT)
    static void leaderWithoutComesAsItWould() {
        for (Supplier<QuorumLog> state : manyStates()) {
            for (int s = 0; s < 7; s++) {
                QuorumLog x = state.get();
                if (x.isUp(s)) {
                    x.fail(s);
                    is("rounds without " + s, state.get().roundsWithout(s), comesTo(x, y -> y.leaders() > 0));
                }
            }
        }
    }

    private static final String WITHOUT = "Returns behind how many rounds there is a leader for the first time, if this"
            + " server failed now, and only rounds went by; 0 if there is another leader now; -1 if not within 30.";

    @Says(in = "Promise 65", value = WITHOUT)
    static void noLeaderWithoutWithinThirtyRounds() {
        countsDown(Checks::lateElection, x -> x.roundsWithout(6), x -> x.leaders() > 0);
        QuorumLog x = founded(1);
        unchanged(x, "without the only member", () -> x.roundsWithout(0), -1);
        unchanged(x, "without another", () -> x.roundsWithout(1), 6);
    }

    @Says(in = "Promise 65", value = WITHOUT)
    static void anotherLeaderNow() {
        QuorumLog x = settled(3);
        unchanged(x, "without a follower", () -> x.roundsWithout(1), 0);
        unchanged(x, "without the leader", () -> x.roundsWithout(0), 9);
        isolate(x, 0);
        leadsAnew(x, 1, 2);
        unchanged(x, "without one of two leaders", () -> x.roundsWithout(0), 0);
        unchanged(x, "without the other", () -> x.roundsWithout(1), 0);
    }

    @Says(in = "Promise 66", value = "Returns the mean of how far servers that are up have committed; 0 if none is up.")
    static void meanOfNoneOn() {
        QuorumLog x = new QuorumLog();
        is("nothing", x.meanCommitted(), 0.0);
        x = settled(3);
        is("three of seven", x.meanCommitted(), 3.0 / 7);
        for (int s = 6; s > 0; s--) {
            x.fail(s);
        }
        is("one", x.meanCommitted(), 1.0);
        x.shorten(0);
        x.fail(0);
        is("none is up, though one has committed", x.meanCommitted(), 0.0);
        is("furthest", x.committed(), 1);
    }

    @Says(in = "Terms 4", value = "Ahead of the calls `roundsToLeader`, `roundsToAnswer`, `roundsToAgree`,"
            + " `roleIfSounding`, `roundsWithout`, `meanCommitted`, `digest` the interface says: ---- what would be"
            + " (nothing is changed).")
    static void whatWouldBeChangesNothing() {
        List<Supplier<QuorumLog>> states = List.of(QuorumLog::new, () -> settled(3), Checks::allKinds, Checks::twoLeaders,
                Checks::lateElection, Checks::lateAnswer, () -> longLogs(60), AnswersTest::crowded);
        for (Supplier<QuorumLog> state : states) {
            QuorumLog x = state.get();
            for (int i = 0; i < 7; i++) {
                int server = i;
                outcome(() -> x.roundsToLeader() + x.roundsToAgree() + x.roundsToAnswer(server % 4));
                outcome(() -> x.roleIfSounding(server));
                outcome(() -> x.roundsWithout(server));
                outcome(() -> x.meanCommitted());
                outcome(() -> x.digest());
            }
            is("what is told behind them", story(x), story(state.get()));
        }
    }

    private static QuorumLog crowded() {
        QuorumLog x = settled(3);
        put(x, 0, 0, 2, 7);
        x.beat(0);
        crowd(x, 60);
        return x;
    }

    @Says(in = "Promise 67", value = {"Computes a checksum.", "A number d starts with 2423; then d becomes d * 31 + v,"
            + " which wraps around as a 64-bit integer, for each v in this order: round(), lost(), messages(), leader(),"
            + " leaders(), committed(); then for each message kindOfMessage(), senderOf(), receiverOf(),"
            + " termOfMessage(), tells(); then for each client serialOf(), isAnswered() (1 if so, 0 if not, as all"
            + " truths here), and if so answerTo(); then for each server isUp(), roleOf(), termOf(), votedFor(),"
            + " follows(), waitedOf(), snapshotOf(), lastOf(), lastTermOf(), committedOf(), membersOf(), couldWin(),"
            + " then for each entry of its log termAt(), kindAt(), valueAt(), clientAt(), serialAt(), copiesOf(), then"
            + " valueOf() of each key and appliedSerial() of each client, then, if it is a leader, for each other"
            + " server, by numbers, nextOf() and matchedOf(); then (also if it is no leader) agreeUpTo() of it and each"
            + " server, by numbers.", "Returns d."})
    static void checksums() {
        QuorumLog[] all = {new QuorumLog(), founded(1), founded(7), settled(3), allKinds(), alone(), longLogs(50),
            twoHaveThree(), lateElection(), lateAnswer(), twoLeaders()};
        for (QuorumLog x : all) {
            is("digest", x.digest(), digestByHand(x));
            x.pass(1);
            is("digest", x.digest(), digestByHand(x));
        }
        QuorumLog none = new QuorumLog();
        for (int s = 0; s < 7; s++) {
            none.fail(s);
        }
        is("none is up", none.digest(), digestByHand(none));
        QuorumLog full = settled(3);
        full.beat(0);
        crowd(full, 60);
        is("60 messages", full.digest(), digestByHand(full));
    }
}
