/** The sentences of section 3 of "Terms", how messages are carried out, that name a boundary case. */
public final class Terms3Test extends Checks {

    public static void main(String[] args) throws Exception {
        playAllThatSay(Terms3Test.class);
    }

    // ---- sounding, standing, leading

    /** Server 0 is the only member and no leader, and its log has so many entries. */
    private static QuorumLog restingWith(int entries) {
        QuorumLog x = alone();
        fill(x, Math.min(entries, 40));
        for (int i = 0; i < 10 && x.lastOf(0) < entries; i++) {
            x.fail(0);
            x.recover(0);
            x.sound(0);
        }
        x.fail(0);
        x.recover(0);
        is("entries", x.lastOf(0), entries);
        return x;
    }

    @Says(in = "Terms 3", value = "Sounding: if the server has 48 entries in its log, or more, it has waited 0 rounds,"
            + " and nothing else happens.")
    static void soundingWith48Entries() {
        for (int entries = 46; entries <= 48; entries++) {
            QuorumLog x = restingWith(entries);
            int term = x.termOf(0);
            x.pass(3);
            is("has waited", x.waitedOf(0), 3);
            is("sounding with " + entries, x.sound(0), entries < 48 ? 3 : 0);
            is("waited with " + entries, x.waitedOf(0), 0);
            is("term with " + entries, x.termOf(0), entries < 48 ? term + 1 : term);
            is("last with " + entries, x.lastOf(0), entries < 48 ? entries + 1 : entries);
        }
        QuorumLog y = restingWith(48);
        int patience = y.patienceOf(0);
        y.pass(patience - 1);
        is("waits", y.waitedOf(0), patience - 1);
        y.pass(1);
        is("sounding in a round with 48", y.roleOf(0) + " " + y.waitedOf(0), "0 0");
        y.pass(patience);
        is("and again", y.roleOf(0) + " " + y.waitedOf(0), "0 0");
        QuorumLog z = restingWith(47);
        z.pass(z.patienceOf(0));
        is("in a round with 47", z.roleOf(0), 3);
    }

    @Says(in = "Terms 3", value = "Sounding: if the server has 48 entries in its log, or more, it has waited 0 rounds,"
            + " and nothing else happens.")
    static void nothingElseHappens() {
        for (int entries = 47; entries <= 50; entries++) {
            QuorumLog x = longLogs(entries);
            is("entries", x.lastOf(1) - x.snapshotOf(1), entries);
            x.sound(1);
            is("whom it follows with " + entries, x.follows(1), entries < 48 ? -1 : 0);
            is("role with " + entries, x.roleOf(1), entries < 48 ? 1 : 0);
            is("sent with " + entries, x.messages(), entries < 48 ? 2 : 0);
            is("waited with " + entries, x.waitedOf(1), 0);
        }
        QuorumLog y = longLogs(60);
        y.shorten(1);
        is("shortened, it sounds", y.sound(1), 1);
    }

    @Says(in = "Terms 3", value = "Otherwise it is a sounder, follows nobody, has waited 0 rounds, and has a yes of"
            + " itself alone; if that is most of the members that it sees, it stands for election; otherwise it sends"
            + " a sound to each other member that it sees, by numbers, with the term 1 greater than its own, and its"
            + " last index and last term.")
    static void sounding() {
        QuorumLog x = settled(5);
        x.leave(0, 3);
        x.pass(6);
        loseAll(x);
        is("waited", x.waitedOf(2), 1);
        x.sound(2);
        is("role, follows, waited, term", x.roleOf(2) + " " + x.follows(2) + " " + x.waitedOf(2) + " " + x.termOf(2),
                "1 -1 0 1");
        is("sounds to members, but itself", row(x), "1:2>0 t2 i2; 1:2>1 t2 i2; 1:2>4 t2 i2; ");
        is("one of one is most", founded(1).sound(0), 3);
        is("one of two is not", founded(2).sound(0), 1);
        QuorumLog y = founded(5);
        y.sound(0);
        arrives(y, 1, 0, 1);
        arrives(y, 2, 1, 0);
        is("two of five", y.roleOf(0), 1);
        y.sound(0);
        arrives(y, 1, 0, 2);
        arrives(y, 2, 2, 0);
        is("the yes of before is gone, two of five again", y.roleOf(0), 1);
        arrives(y, 1, 0, 3);
        arrives(y, 2, 3, 0);
        is("three of five", y.roleOf(0), 2);
    }

    @Says(in = "Terms 3", value = "Standing for election: its term is 1 greater, it is a candidate, follows nobody, has"
            + " waited 0 rounds, has voted for itself and has a yes of itself alone; if that is most of the members"
            + " that it sees, it leads; otherwise it sends a call to each other member that it sees, by numbers, with"
            + " its term, last index and last term.")
    static void standing() {
        QuorumLog x = settled(5);
        is("waited", x.waitedOf(2), 1);
        x.handOver(0, 2);
        x.deliver(0);
        is("role, follows, waited, term, voted", x.roleOf(2) + " " + x.follows(2) + " " + x.waitedOf(2) + " "
                + x.termOf(2) + " " + x.votedFor(2), "2 -1 0 2 2");
        is("calls", row(x), "3:2>0 t2 i1; 3:2>1 t2 i1; 3:2>3 t2 i1; 3:2>4 t2 i1; ");
        QuorumLog y = founded(5);
        y.sound(0);
        for (int s = 1; s <= 2; s++) {
            arrives(y, 1, 0, s);
            arrives(y, 2, s, 0);
        }
        is("stands with three yeses to its sound", y.roleOf(0), 2);
        arrives(y, 3, 0, 3);
        arrives(y, 4, 3, 0);
        is("those are no votes: two of five", y.roleOf(0), 2);
        arrives(y, 3, 0, 4);
        arrives(y, 4, 4, 0);
        is("three of five", y.roleOf(0), 3);
        QuorumLog one = founded(1);
        one.sound(0);
        is("one of one leads", one.roleOf(0) + " " + one.termOf(0) + " " + one.votedFor(0), "3 1 0");
        QuorumLog two = settled(2);
        two.handOver(0, 1);
        two.deliver(0);
        is("one of two does not", two.roleOf(1), 2);
    }

    @Says(in = "Terms 3", value = "Leading: it is a leader, and follows nobody; for each other server next is 1 greater"
            + " than the last index of the leader, and matched is 0; it appends an empty entry of its term; then it"
            + " sends to each other member that it sees, by numbers; then it looks what is committed.")
    static void leading() {
        QuorumLog x = settled(4);
        is("matched of old", x.matchedOf(0, 1), 1);
        x.handOver(0, 2);
        x.deliver(0);
        arrives(x, 3, 2, 0);
        arrives(x, 3, 2, 3);
        arrives(x, 4, 0, 2);
        x.lose(0);
        is("one vote is under way", row(x), "4:3>2 t2 i1; ");
        x.deliver(0);
        is("role, follows", x.roleOf(2) + " " + x.follows(2), "3 -1");
        is("empty entry", x.kindAt(2, 2) + " " + x.termAt(2, 2), "0 2");
        is("entries", row(x), "5:2>0 t2 i2; 5:2>1 t2 i2; 5:2>3 t2 i2; ");
        for (int s = 0; s < 7; s++) {
            int other = s;
            Object next = s == 2 ? ARGUMENT : Integer.valueOf(2);
            is("next of " + s, outcome(() -> x.nextOf(2, other)), next);
            Object matched = s == 2 ? ARGUMENT : Integer.valueOf(0);
            is("matched of " + s, outcome(() -> x.matchedOf(2, other)), matched);
        }
        is("nothing more is committed", x.committedOf(2), 1);
        QuorumLog one = alone();
        is("alone it is committed at once", one.committedOf(0), 1);
        is("and nothing is sent", one.messages(), 0);
        one.fail(0);
        one.recover(0);
        one.sound(0);
        is("next, leading again", one.nextOf(0, 6), 2);
        is("all is committed again", one.committedOf(0), 2);
    }

    // ---- sending

    /** Server 2 has matched 1, and next 2; server 0 has 2 to 5 besides, and has committed 2 to so far. */
    private static QuorumLog sendingBehindSnapshot(int snapshot) {
        QuorumLog x = settled(3);
        isolate(x, 2);
        for (int index = 2; index <= 5; index++) {
            put(x, index - 2, 0, 0, index);
            if (index <= snapshot) {
                x.pass(4);
            }
        }
        rejoin(x, 2);
        loseAll(x);
        if (snapshot > 0) {
            x.shorten(0);
        }
        is("snapshot", x.snapshotOf(0), snapshot);
        is("next", x.nextOf(0, 2), 2);
        return x;
    }

    @Says(in = "Terms 3", value = "Sending to a server (by a leader): if next is not greater than the index of its"
            + " snapshot, a snapshot: its term, and its snapshot;")
    static void sendsSnapshotOrEntries() {
        for (int snapshot = 0; snapshot <= 4; snapshot++) {
            QuorumLog x = sendingBehindSnapshot(snapshot == 1 ? 0 : snapshot);
            if (snapshot == 1) {
                x.shorten(0);
                is("snapshot", x.snapshotOf(0), 1);
            }
            x.beat(0);
            int at = find(x, snapshot < 2 ? 5 : 7, 0, 2);
            is("next is 2, the snapshot " + snapshot, rowFrom(x, at),
                    snapshot < 2 ? "5:0>2 t1 i5; " : "7:0>2 t1 i" + snapshot + "; ");
            x.deliver(at);
            is("snapshot of 2", x.snapshotOf(2), snapshot < 2 ? 0 : snapshot);
            is("last of 2", x.lastOf(2), snapshot < 2 ? 5 : snapshot);
        }
        QuorumLog y = settled(3);
        y.shorten(0);
        y.shorten(1);
        y.beat(0);
        is("next is one behind the snapshot", row(y), "5:0>1 t1 i1; 5:0>2 t1 i1; ");
    }

    @Says(in = "Terms 3", value = "otherwise entries: its term, as previous index next less 1, the term of that, the"
            + " entries from next on, at most 4, and how far it has committed.")
    static void sendsFourEntriesAtMost() {
        for (int entries = 0; entries <= 6; entries++) {
            QuorumLog x = settled(3);
            x.askPut(0, 0, 1);
            for (int i = 0; i < entries; i++) {
                x.hand(0, 0);
            }
            x.beat(0);
            int sent = Math.min(entries, 4);
            String told = "t1 i" + (1 + sent) + "; ";
            is("sent of " + entries, row(x), "5:0>1 " + told + "5:0>2 " + told);
            x.deliver(0);
            is("last of 1", x.lastOf(1), 1 + sent);
            for (int index = 2; index <= 1 + sent; index++) {
                is("kind", x.kindAt(1, index), 1);
            }
            x.deliver(1);
            is("committed by the leader", x.committedOf(0), 1 + sent);
            x.deliver(0);
            is("as it sent this, it had committed up to 1", x.committedOf(2), 1);
        }
    }

    @Says(in = "Terms 3", value = "as previous index next less 1, the term of that,")
    static void previousIsTheSnapshot() {
        QuorumLog x = settled(3);
        x.shorten(0);
        put(x, 0, 0, 0, 5);
        x.beat(0);
        x.deliver(0);
        is("the term of the snapshot is that of the entry", x.lastOf(1), 2);
        x.deliver(1);
        x.shorten(0);
        is("snapshot", x.snapshotOf(0), 2);
        x.handOver(0, 1);
        x.deliver(x.messages() - 1);
        is("stands", x.roleOf(1), 2);
        arrives(x, 3, 1, 0);
        arrives(x, 4, 0, 1);
        arrives(x, 5, 1, 0);
        is("previous is the snapshot of 0", x.lastOf(0) + " " + x.lastTermOf(0), "3 2");
    }

    // ---- what is committed, and applied

    @Says(in = "Terms 3", value = "Looking what is committed (by a leader): the greatest index of an entry in its log"
            + " that has its own term, and that most of the members that it sees have: itself, if it is among them,"
            + " and those whose matched is as great or greater.")
    static void committedAreEntriesOfItsOwnTermThatMostHave() {
        QuorumLog x = settled(5);
        // Servers 1 and 2 have index 2, then 3; with server 0 they are three of five.
        put(x, 0, 0, 0, 1);
        x.beat(0);
        put(x, 1, 0, 0, 2);
        x.beat(0);
        x.deliver(0);
        x.deliver(0);
        is("rows to 1 and 2", find(x, 5, 0, 3), 0);
        arrives(x, 6, 1, 0);
        is("two of five", x.committedOf(0), 1);
        arrives(x, 5, 0, 2);
        arrives(x, 6, 2, 0);
        is("matched", x.matchedOf(0, 1) + " " + x.matchedOf(0, 2), "2 2");
        is("matched as great: three of five", x.committedOf(0), 2);
        arrives(x, 6, 2, 0);
        is("one has more", x.matchedOf(0, 2) + " " + x.committedOf(0), "3 2");
        arrives(x, 5, 0, 1);
        arrives(x, 6, 1, 0);
        is("and another", x.committedOf(0), 3);
        elderTermsAreNotCommittedByCopies();
    }

    @Says(in = "Terms 3", value = "itself, if it is among them, and those whose matched is as great or greater.")
    static void greaterMatchedCountsAsWell() {
        QuorumLog x = settled(5);
        put(x, 0, 0, 0, 1);
        x.beat(0);
        put(x, 1, 0, 0, 2);
        x.beat(0);
        lastArrives(x, 5, 0, 1);
        arrives(x, 6, 1, 0);
        is("one has 3", x.matchedOf(0, 1) + " " + x.committedOf(0), "3 1");
        arrives(x, 5, 0, 2);
        arrives(x, 6, 2, 0);
        is("another has 2, so 2 is had by three of five", x.matchedOf(0, 2) + " " + x.committedOf(0), "2 2");
    }

    @Says(in = "Terms 3", value = "the greatest index of an entry in its log that has its own term")
    static void elderTermsAreNotCommittedThoughMatched() {
        QuorumLog x = settled(3);
        x.askPut(0, 0, 1);
        for (int index = 2; index <= 5; index++) {
            x.hand(0, 0);
        }
        sendsTo(x, 0, 1);
        x.deliver(0);
        is("1 has 2 to 5 of term 1", x.lastOf(1) + " " + x.committedOf(1), "5 1");
        leadsAnew(x, 1, 2);
        is("and 6 of term 2, its own", x.lastOf(1) + " " + x.committedOf(1) + " " + x.nextOf(1, 2), "6 0 6");
        sendsTo(x, 1, 2);
        x.deliver(0);
        x.deliver(0);
        x.deliver(0);
        is("2 has 2 to 5", row(x), "6:2>1 t2 i5; ");
        x.deliver(0);
        is("most have 5, which is not of its own term", x.matchedOf(1, 2) + " " + x.committedOf(1), "5 0");
        x.deliver(0);
        x.deliver(0);
        is("with 6 all are committed", x.matchedOf(1, 2) + " " + x.committedOf(1), "6 6");
    }

    private static void elderTermsAreNotCommittedByCopies() {
        QuorumLog x = settled(3);
        put(x, 0, 0, 0, 1);
        x.beat(0);
        arrives(x, 5, 0, 1);
        arrives(x, 5, 0, 2);
        x.fail(0);
        loseAll(x);
        x.pass(4);
        x.sound(1);
        arrives(x, 1, 1, 2);
        arrives(x, 2, 2, 1);
        arrives(x, 3, 1, 2);
        arrives(x, 4, 2, 1);
        is("leads", x.roleOf(1), 3);
        x.lose(find(x, 5, 1, 2));
        is("next", x.nextOf(1, 2), 3);
        is("an entry of term 1 all have", x.copiesOf(1, 2), 3);
        is("is not committed", x.committedOf(1), 1);
        x.beat(1);
        arrives(x, 5, 1, 2);
        is("its own entry", x.copiesOf(1, 3), 2);
        is("the leader does not know", x.committedOf(1), 1);
        arrives(x, 6, 2, 1);
        is("with its own, the elder one is committed, too", x.committedOf(1), 3);
    }

    @Says(in = "Terms 3", value = "itself, if it is among them, and those whose matched is as great or greater.")
    static void doesNotCountItselfIfItIsNoMember() {
        QuorumLog x = settled(4);
        x.leave(0, 0);
        x.beat(0);
        arrives(x, 5, 0, 1);
        arrives(x, 6, 1, 0);
        is("one of three, with itself it would be two", x.committedOf(0), 1);
        arrives(x, 5, 0, 2);
        arrives(x, 6, 2, 0);
        is("two of three", x.committedOf(0), 2);
    }

    @Says(in = "Terms 3", value = "If it has not committed so far, it has then.")
    static void committedIsNeverLess() {
        QuorumLog x = settled(3);
        put(x, 0, 0, 0, 1);
        x.pass(6);
        is("committed by three", x.committedOf(0), 2);
        x.join(0, 3);
        x.beat(0);
        arrives(x, 5, 0, 1);
        arrives(x, 5, 0, 2);
        arrives(x, 6, 1, 0);
        arrives(x, 6, 2, 0);
        is("three of four have the entry of members", x.committedOf(0), 3);
        x.join(0, 4);
        is("of five two more are needed", x.committedOf(0), 3);
        arrives(x, 5, 0, 3);
        arrives(x, 6, 3, 0);
        is("an answer takes nothing back", x.committedOf(0), 3);
        QuorumLog y = alone();
        y.join(0, 1);
        is("of two members one has matched 0, what was committed stays", y.committedOf(0), 1);
    }

    @Says(in = "Terms 3", value = "Then it applies; and if it is not among the members that it sees, and has committed"
            + " the last entry of members in its log, it is a follower, and follows nobody.")
    static void stepsDownAsItsLeavingIsCommitted() {
        QuorumLog x = settled(3);
        x.leave(0, 0);
        x.askPut(0, 0, 7);
        x.hand(0, 0);
        x.beat(0);
        arrives(x, 5, 0, 1);
        arrives(x, 6, 1, 0);
        is("a leader as long as it is not committed", x.roleOf(0), 3);
        arrives(x, 5, 0, 2);
        arrives(x, 6, 2, 0);
        is("a follower then", x.roleOf(0) + " " + x.follows(0), "0 -1");
        is("it has applied first, as a leader", x.answerTo(0), 0);
        is("value", x.valueOf(0, 0), 7);
        is("its term stays", x.termOf(0) + " " + x.votedFor(0), "1 0");
        QuorumLog y = settled(3);
        y.leave(0, 0);
        y.beat(0);
        arrives(y, 5, 0, 1);
        put(y, 0, 0, 0, 7);
        arrives(y, 6, 1, 0);
        arrives(y, 5, 0, 2);
        arrives(y, 6, 2, 0);
        is("its leaving is committed, the entry behind it is not", y.committedOf(0) + " " + y.lastOf(0), "2 3");
        is("a follower", y.roleOf(0), 0);
        QuorumLog z = settled(3);
        put(z, 0, 0, 0, 2);
        z.pass(6);
        put(z, 1, 0, 0, 3);
        z.beat(0);
        z.leave(0, 0);
        z.shorten(0);
        is("snapshot, last", z.snapshotOf(0) + " " + z.lastOf(0), "2 4");
        arrives(z, 5, 0, 1);
        arrives(z, 6, 1, 0);
        arrives(z, 5, 0, 2);
        arrives(z, 6, 2, 0);
        is("3 is committed, its leaving with 4 is not", z.committedOf(0) + " " + z.roleOf(0), "3 3");
        arrives(z, 5, 0, 1);
        arrives(z, 6, 1, 0);
        arrives(z, 5, 0, 2);
        arrives(z, 6, 2, 0);
        is("then it is", z.committedOf(0) + " " + z.roleOf(0), "4 0");
        QuorumLog two = settled(2);
        two.leave(0, 0);
        two.pass(2);
        is("of two", two.roleOf(0), 0);
        two.pass(30);
        is("the other one leads alone", two.leader(), 1);
    }

    @Says(in = "Terms 3", value = "Applying: what is committed is applied, entry by entry.")
    static void appliesEntryByEntry() {
        QuorumLog x = settled(3);
        x.askPut(0, 1, 5);
        x.hand(0, 0);
        x.askAdd(1, 1, 2);
        x.hand(1, 0);
        x.askSwap(2, 1, 7, 9);
        x.hand(2, 0);
        sendsTo(x, 0, 1);
        x.deliver(0);
        is("nothing is applied yet", x.valueOf(0, 1), 0);
        x.deliver(0);
        is("all at once, in order", x.answerTo(0) + " " + x.answerTo(1) + " " + x.answerTo(2) + " " + x.valueOf(0, 1),
                "0 7 1 9");
        restart(x, 1);
        sendsTo(x, 0, 1);
        x.deliver(0);
        is("and again from the first one", x.committedOf(1) + " " + x.valueOf(1, 1), "4 9");
    }

    @Says(in = "Terms 3", value = "Of a request: if its serial is not greater than that of its client in the table, it"
            + " changes nothing; otherwise this is the serial of the client then; put makes the value of the key its"
            + " value, and gives the one before; add adds its value to that of the key (which wraps around in 32"
            + " bits), and gives the sum; swap makes the value of the key its value, if that is the expected one, and"
            + " gives 1, otherwise it gives 0.")
    static void requestsAreAppliedOnce() {
        QuorumLog x = settled(3);
        x.askAdd(0, 2, 9999);
        for (int i = 0; i < 4; i++) {
            x.hand(0, 0);
        }
        x.pass(6);
        is("four entries, one is applied", x.committedOf(0) + " " + x.valueOf(0, 2), "5 9999");
        is("serial", x.appliedSerial(0, 0), 1);
        is("by who follows", x.valueOf(2, 2), 9999);
        x.askAdd(1, 2, -9999);
        x.hand(1, 0);
        x.hand(1, 0);
        x.pass(6);
        is("of another client", x.valueOf(0, 2) + " " + x.answerTo(1), "0 0");
        x.askPut(0, 2, -9999);
        x.hand(0, 0);
        x.hand(0, 0);
        x.pass(6);
        is("put gives the one before, also if it is in the log twice", x.answerTo(0), 0);
        x.askSwap(0, 2, -9999, 9999);
        x.hand(0, 0);
        x.hand(0, 0);
        x.pass(6);
        is("swap gives 1, also if it is in the log twice", x.answerTo(0) + " " + x.valueOf(0, 2), "1 9999");
        x.askSwap(0, 2, 9998, 5);
        x.hand(0, 0);
        x.pass(6);
        is("one less is not the expected one", x.answerTo(0) + " " + x.valueOf(0, 2), "0 9999");
        is("serial", x.appliedSerial(0, 0), 4);
        x.askSwap(0, 2, 9999, 9999);
        x.hand(0, 0);
        x.pass(6);
        is("the same value is one, too", x.answerTo(0), 1);
    }

    @Says(in = "Terms 3", value = "If the server is a leader, and the serial is that of the client's own request, this"
            + " is answered, with what the table says that it gave.")
    static void leadersAnswerTheLatestRequest() {
        QuorumLog x = settled(3);
        x.askAdd(0, 0, 5);
        x.hand(0, 0);
        x.beat(0);
        arrives(x, 5, 0, 1);
        x.hand(0, 0);
        arrives(x, 6, 1, 0);
        is("answered", x.answerTo(0), 5);
        is("the second entry is not committed", x.committedOf(0) + " " + x.lastOf(0), "2 3");
        x.askAdd(0, 0, 1);
        x.pass(6);
        is("the second entry is committed", x.committedOf(0), 3);
        is("its serial is not that of the new request", x.isAnswered(0), false);
        QuorumLog y = settled(3);
        y.askAdd(0, 0, 5);
        y.hand(0, 0);
        y.beat(0);
        arrives(y, 5, 0, 1);
        arrives(y, 5, 0, 2);
        y.fail(0);
        loseAll(y);
        y.pass(4);
        is("who follows does not answer", y.isAnswered(0), false);
        y.sound(1);
        arrives(y, 1, 1, 2);
        arrives(y, 2, 2, 1);
        arrives(y, 3, 1, 2);
        arrives(y, 4, 2, 1);
        arrives(y, 5, 1, 2);
        is("not yet", y.isAnswered(0), false);
        arrives(y, 6, 2, 1);
        is("the next leader answers as it applies", y.isAnswered(0), true);
    }

    // ---- a log is as good as another one

    /**
     * Server 0 has index 1 and so many more, all of term 1, server 1 has index 1 of term 1 and 2 of term 2, server 2
     * has index 1 only. All three are members, are up in term 2, and follow nobody.
     */
    private static QuorumLog threeLogs(int more) {
        QuorumLog x = settled(3);
        isolate(x, 0);
        for (int i = 0; i < more; i++) {
            put(x, i, 0, 0, i);
        }
        x.pass(4);
        loseAll(x);
        x.sound(1);
        arrives(x, 1, 1, 2);
        arrives(x, 2, 2, 1);
        arrives(x, 3, 1, 2);
        arrives(x, 4, 2, 1);
        rejoin(x, 0);
        for (int s = 0; s < 3; s++) {
            x.fail(s);
            x.recover(s);
        }
        loseAll(x);
        x.sound(0);
        arrives(x, 1, 0, 1);
        arrives(x, 2, 1, 0);
        loseAll(x);
        for (int s = 0; s < 3; s++) {
            is("term, role, follows", x.termOf(s) + " " + x.roleOf(s) + " " + x.follows(s), "2 0 -1");
            is("last term, last", x.lastTermOf(s) + " " + x.lastOf(s), s == 0 ? "1 " + (1 + more) : s == 1 ? "2 2" : "1 1");
        }
        return x;
    }

    private static void soundIsAnswered(int more, int sender, int receiver, boolean yes) {
        QuorumLog x = threeLogs(more);
        x.sound(sender);
        arrives(x, 1, sender, receiver);
        is("sound " + sender + ">" + receiver + " with " + more, lastMessage(x),
                "2:" + receiver + ">" + sender + (yes ? " t3 i1; " : " t2 i0; "));
    }

    @Says(in = "Terms 3", value = "A log is as good as another one, if its last term is greater, or the same with a last"
            + " index as great or greater.")
    static void asGoodByTheSound() {
        soundIsAnswered(0, 2, 0, true);
        soundIsAnswered(0, 0, 2, true);
        soundIsAnswered(1, 2, 0, false);
        soundIsAnswered(1, 0, 2, true);
        soundIsAnswered(1, 1, 0, true);
        soundIsAnswered(1, 0, 1, false);
        soundIsAnswered(3, 1, 0, true);
        soundIsAnswered(3, 0, 1, false);
        soundIsAnswered(0, 1, 2, true);
        soundIsAnswered(0, 2, 1, false);
    }

    @Says(in = "Terms 3", value = "A log is as good as another one, if its last term is greater, or the same with a last"
            + " index as great or greater.")
    static void asGoodByTheCall() {
        QuorumLog x = settled(3);
        x.handOver(0, 1);
        x.deliver(0);
        is("the last index of the call is 1", row(x), "3:1>0 t2 i1; 3:1>2 t2 i1; ");
        put(x, 0, 0, 0, 7);
        arrives(x, 3, 1, 0);
        is("one less than the last index of the same term", lastMessage(x), "4:0>1 t2 i0; ");
        arrives(x, 3, 1, 2);
        is("as great", lastMessage(x), "4:2>1 t2 i1; ");
        QuorumLog y = settled(3);
        put(y, 0, 0, 0, 7);
        y.beat(0);
        arrives(y, 5, 0, 1);
        arrives(y, 6, 1, 0);
        loseAll(y);
        y.handOver(0, 1);
        y.deliver(0);
        arrives(y, 3, 1, 2);
        is("one greater", lastMessage(y), "4:2>1 t2 i1; ");
        QuorumLog z = threeLogs(3);
        z.sound(1);
        arrives(z, 1, 1, 2);
        arrives(z, 2, 2, 1);
        arrives(z, 3, 1, 0);
        is("a greater last term with a less last index", lastMessage(z), "4:0>1 t3 i1; ");
        QuorumLog w = threeLogs(3);
        w.sound(0);
        arrives(w, 1, 0, 2);
        arrives(w, 2, 2, 0);
        arrives(w, 3, 0, 1);
        is("a less last term with a greater last index", lastMessage(w), "4:1>0 t3 i0; ");
    }

    @Says(in = "Terms 3", value = "A log is as good as another one, if its last term is greater, or the same with a last"
            + " index as great or greater.")
    static void asGoodToWin() {
        is("as great as one of three", threeLogs(0).couldWin(2), true);
        is("one less than one of three, and a less term than another", threeLogs(1).couldWin(2), false);
        is("one greater than one of three", threeLogs(1).couldWin(0), true);
        QuorumLog x = settled(4);
        isolate(x, 0);
        put(x, 0, 0, 0, 1);
        put(x, 1, 0, 0, 1);
        x.pass(4);
        loseAll(x);
        x.sound(1);
        elects(x, 1, 2, 3);
        arrives(x, 5, 1, 2);
        put(x, 2, 1, 0, 1);
        is("last terms", x.lastTermOf(0) + " " + x.lastTermOf(1) + " " + x.lastTermOf(2) + " " + x.lastTermOf(3), "1 2 2 1");
        is("last", x.lastOf(0) + " " + x.lastOf(1) + " " + x.lastOf(2) + " " + x.lastOf(3), "3 3 2 1");
        is("a greater last term with a less last index, one of three that are needed", x.couldWin(2), true);
        is("a less last term with a greater last index", x.couldWin(0), false);
    }

    // ---- what arrives

    private static final String TERM_FIRST = "First, but for a sound (1) and a yes to one (2): if the term of the message"
            + " is greater than that of the receiver, the receiver has this term, has voted for nobody, is a follower"
            + " and follows nobody.";

    @Says(in = "Terms 3", value = TERM_FIRST)
    static void soundsAndYesesToThemLeaveTheTerm() {
        QuorumLog x = settled(3);
        x.fail(2);
        x.recover(2);
        x.sound(1);
        is("a sound of term 2", row(x), "1:1>0 t2 i1; 1:1>2 t2 i1; ");
        arrives(x, 1, 1, 0);
        is("leaves the leader", x.termOf(0) + " " + x.roleOf(0) + " " + x.votedFor(0), "1 3 0");
        arrives(x, 1, 1, 2);
        is("leaves a follower", x.termOf(2) + " " + x.votedFor(2), "1 0");
        is("a yes of term 2", lastMessage(x), "2:2>1 t2 i1; ");
        x.fail(1);
        x.recover(1);
        arrives(x, 2, 2, 1);
        is("leaves who is no sounder any more", x.termOf(1) + " " + x.roleOf(1) + " " + x.votedFor(1), "1 0 0");
    }

    @Says(in = "Terms 3", value = TERM_FIRST)
    static void aNoToASoundBringsItsTerm() {
        QuorumLog x = founded(3);
        x.sound(0);
        arrives(x, 1, 0, 1);
        arrives(x, 2, 1, 0);
        arrives(x, 3, 0, 1);
        loseAll(x);
        x.sound(2);
        arrives(x, 1, 2, 1);
        is("a no of term 1", lastMessage(x), "2:1>2 t1 i0; ");
        is("a sounder of term 0", x.roleOf(2) + " " + x.termOf(2), "1 0");
        arrives(x, 2, 1, 2);
        is("is a follower of term 1", x.roleOf(2) + " " + x.termOf(2) + " " + x.votedFor(2), "0 1 -1");
        loseAll(x);
        x.sound(2);
        arrives(x, 1, 2, 0);
        arrives(x, 1, 2, 1);
        is("yeses of term 2", rowFrom(x, 0), "2:0>2 t2 i1; 2:1>2 t2 i1; ");
        QuorumLog y = settled(3);
        y.sound(1);
        arrives(y, 1, 1, 0);
        is("a no of term 1", lastMessage(y), "2:0>1 t1 i0; ");
        arrives(y, 2, 0, 1);
        is("leaves a sounder of term 1", y.roleOf(1) + " " + y.votedFor(1), "1 0");
    }

    @Says(in = "Terms 3", value = TERM_FIRST)
    static void callsBringTheirTerm() {
        QuorumLog x = settled(3);
        x.handOver(0, 1);
        x.deliver(0);
        put(x, 0, 0, 0, 7);
        x.pass(1);
        is("a leader that refuses", x.roleOf(0) + " " + x.termOf(0) + " " + x.votedFor(0) + " " + x.follows(0), "0 2 -1 -1");
        QuorumLog y = settled(3);
        y.handOver(0, 1);
        y.deliver(0);
        arrives(y, 3, 1, 2);
        is("a follower that votes", y.termOf(2) + " " + y.votedFor(2) + " " + y.follows(2), "2 1 -1");
        is("the leader has not got it yet", y.roleOf(0) + " " + y.termOf(0), "3 1");
    }

    @Says(in = "Terms 3", value = TERM_FIRST)
    static void entriesAndAnswersBringTheirTerm() {
        QuorumLog x = settled(3);
        x.beat(0);
        x.handOver(0, 1);
        arrives(x, 8, 0, 1);
        arrives(x, 5, 0, 1);
        is("a no of term 2", lastMessage(x), "6:1>0 t2 i0; ");
        arrives(x, 3, 1, 2);
        arrives(x, 4, 2, 1);
        is("1 leads in term 2, 0 in term 1", x.leaders(), 2);
        arrives(x, 5, 1, 0);
        is("a leader follows the sender of entries of term 2",
                x.roleOf(0) + " " + x.termOf(0) + " " + x.votedFor(0) + " " + x.follows(0), "0 2 -1 1");
        QuorumLog y = settled(3);
        y.beat(0);
        y.handOver(0, 1);
        arrives(y, 8, 0, 1);
        arrives(y, 5, 0, 1);
        arrives(y, 6, 1, 0);
        is("a leader is none by an answer of term 2",
                y.roleOf(0) + " " + y.termOf(0) + " " + y.votedFor(0) + " " + y.follows(0), "0 2 -1 -1");
        is("and sends nothing more", find(y, 5, 0, 1), -1);
    }

    @Says(in = "Terms 3", value = TERM_FIRST)
    static void repliesToCallsBringTheirTerm() {
        QuorumLog x = settled(5);
        x.handOver(0, 1);
        x.handOver(0, 2);
        x.deliver(0);
        x.deliver(0);
        is("two candidates of term 2", x.roleOf(1) + x.roleOf(2) + x.termOf(1) + x.termOf(2), 8);
        for (int s = 2; s <= 4; s++) {
            x.fail(s);
            x.recover(s);
        }
        loseAllBut(x, 3, 1, 2);
        x.sound(2);
        for (int s = 3; s <= 4; s++) {
            arrives(x, 1, 2, s);
            arrives(x, 2, s, 2);
        }
        is("stands in term 3", x.roleOf(2) + " " + x.termOf(2), "2 3");
        arrives(x, 3, 1, 2);
        is("a no of term 3", lastMessage(x), "4:2>1 t3 i0; ");
        arrives(x, 4, 2, 1);
        is("a candidate of term 2 is a follower of term 3", x.roleOf(1) + " " + x.termOf(1) + " " + x.votedFor(1), "0 3 -1");
    }
}
