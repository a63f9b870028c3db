/** The sentences of section 4 of "Terms", clients and calls, that name a boundary case. */
public final class Terms4Test extends Checks {

    public static void main(String[] args) throws Exception {
        playAllThatSay(Terms4Test.class);
    }

    @Says(in = "Terms 4", value = "A client has a serial, and the latest request (with this serial), which is answered"
            + " or not.")
    static void latestRequest() {
        QuorumLog x = alone();
        is("none", x.serialOf(0) + " " + x.isAnswered(0), "0 false");
        x.askAdd(0, 0, 5);
        is("not answered", x.serialOf(0) + " " + x.isAnswered(0), "1 false");
        x.hand(0, 0);
        is("answered", x.serialOf(0) + " " + x.isAnswered(0) + " " + x.answerTo(0), "1 true 5");
        x.askAdd(0, 0, 7);
        is("the latest one is not", x.serialOf(0) + " " + x.isAnswered(0), "2 false");
        is("it is the latest that is handed over", x.valueAt(0, x.hand(0, 0)), 7);
        is("of another client", x.serialOf(1) + " " + x.isAnswered(1), "0 false");
    }

    @Says(in = "Terms 4", value = "A new request has a serial that is 1 greater than the one before.")
    static void serialsOneByOne() {
        QuorumLog x = alone();
        for (int serial = 1; serial <= 60; serial++) {
            int client = 3;
            int asked = serial % 3 == 0 ? x.askPut(client, 0, 1) : serial % 3 == 1 ? x.askAdd(client, 0, 1)
                    : x.askSwap(client, 0, 0, 1);
            is("serial", asked, serial);
            refused(x, STATE, "asked again", () -> x.askPut(client, 0, 1));
            refused(x, ARGUMENT, "no value", () -> x.askAdd(client, 0, 10000));
            if (x.lastOf(0) - x.snapshotOf(0) == 40) {
                x.shorten(0);
            }
            is("in the entry", x.serialAt(0, x.hand(client, 0)), serial);
        }
        is("of another client", x.askPut(2, 0, 0), 1);
        x.found(1);
        is("anew", x.askPut(3, 0, 0), 1);
    }

    @Says(in = "Terms 4", value = "Handing it to a leader appends an entry of it to the leader's log, with the leader's"
            + " term; then the leader looks what is committed.")
    static void handing() {
        QuorumLog x = alone();
        restart(x, 0);
        x.sound(0);
        x.askAdd(1, 6, 5);
        is("index", x.hand(1, 0), 3);
        is("entry", x.kindAt(0, 3) + " " + x.termAt(0, 3) + " " + x.clientAt(0, 3) + " " + x.valueAt(0, 3), "2 2 1 5");
        is("alone, it is committed at once", x.committedOf(0) + " " + x.answerTo(1), "3 5");
        QuorumLog y = settled(2);
        y.askAdd(1, 6, 5);
        is("index", y.hand(1, 0), 2);
        is("one of two is not most", y.committedOf(0) + " " + y.isAnswered(1), "1 false");
        is("nothing is sent at once", y.messages(), 0);
        // Server 1 has index 2, and with a new request the leader looks, but no more than 2 is had by most.
        sendsTo(y, 0, 1);
        y.deliver(0);
        y.deliver(0);
        is("committed", y.committedOf(0), 2);
        QuorumLog z = settled(3);
        z.leave(0, 2);
        sendsTo(z, 0, 1);
        arrives(z, 5, 0, 1);
        arrives(z, 6, 1, 0);
        z.leave(0, 1);
        z.askAdd(0, 0, 1);
        z.hand(0, 0);
        is("the only member's log is committed up to its end", z.committedOf(0) + " " + z.answerTo(0), "4 1");
    }

    @Says(in = "Terms 4", value = "It can be handed over more than once, also to different leaders.")
    static void handedOverMoreThanOnce() {
        QuorumLog x = settled(3);
        isolate(x, 0);
        x.askAdd(0, 0, 5);
        is("to one", x.hand(0, 0), 2);
        is("to the same", x.hand(0, 0), 3);
        x.pass(4);
        leadsAnew(x, 1, 2);
        is("two leaders", x.leaders(), 2);
        is("to another", x.hand(0, 1), 3);
        is("and again to the first", x.hand(0, 0), 4);
        is("not answered", x.isAnswered(0), false);
        x.pass(6);
        is("answered by the other", x.answerTo(0), 5);
        refused(x, STATE, "then no more", () -> x.hand(0, 0));
        rejoin(x, 0);
        x.pass(8);
        is("applied once by all", x.valueOf(0, 0) + " " + x.valueOf(1, 0) + " " + x.valueOf(2, 0), "5 5 5");
    }

    @Says(in = "Terms 4", value = "Servers are 0 to 6, clients 0 to 3, keys 0 to 7; a message is told by its place in"
            + " the row, from 0 on.")
    static void numbersAndPlaces() {
        QuorumLog x = founded(7);
        is("server 6", x.patienceOf(6), 10);
        refused(x, INDEX, "server 7", () -> x.patienceOf(7));
        refused(x, INDEX, "server -1", () -> x.patienceOf(-1));
        is("client 3, key 7", x.askPut(3, 7, 0), 1);
        refused(x, INDEX, "client 4", () -> x.askPut(4, 7, 0));
        refused(x, INDEX, "client -1", () -> x.askPut(-1, 7, 0));
        refused(x, INDEX, "key 8", () -> x.askPut(2, 8, 0));
        refused(x, INDEX, "key -1", () -> x.askPut(2, -1, 0));
        refused(x, INDEX, "message 0 of none", () -> x.receiverOf(0));
        x.sound(2);
        is("message 0", x.receiverOf(0), 0);
        is("message 5", x.receiverOf(5), 6);
        refused(x, INDEX, "message 6", () -> x.receiverOf(6));
        refused(x, INDEX, "message -1", () -> x.receiverOf(-1));
        x.lose(0);
        is("places move up", x.receiverOf(0) + " " + x.receiverOf(4), "1 6");
        refused(x, INDEX, "message 5", () -> x.receiverOf(5));
    }
}
