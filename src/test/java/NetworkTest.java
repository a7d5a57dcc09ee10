/** Promises 8 to 12 and 14: the packets in the network, and what delivering them answers. */
public final class NetworkTest {
    public static void main(String[] args) {
        promise8Deliver();
        promise8States();
        promise8ClosedStates();
        promise8SessionsAndTickets();
        promise8WithoutRoom();
        promise8TicketWithoutRoom();
        promise9Foresee();
        promise10Drop();
        promise11Repeat();
        promise12Alter();
        promise12AnyPacket();
        promise14Packet();
        promise14PlainAfterProtected();
        promise14WrongPositions();
        Due.finish("NetworkTest");
    }

    private static void promise8Deliver() {
        SessionSimulator x = new SessionSimulator();
        Due.be("an empty network", x.deliver(0), Due.NONE);
        Due.be("nothing delivered", x.count(2), 0);
        x = Due.opened();
        x.send(0, 1);
        x.send(0, 2);
        x.send(0, 3);
        Due.be("position 3", x.deliver(3), Due.NONE);
        Due.be("position -1", x.deliver(-1), Due.NONE);
        Due.deliver(x, 1);
        Due.be("the others stay in order", x.packet(0, 6) * 10 + x.packet(1, 6), 13);
        Due.be("its acknowledgement is the last", x.packet(2, 1), 5);
        Due.be("delivered", x.count(2), 5);
    }

    private static void promise8States() {
        SessionSimulator x = new SessionSimulator();
        x.connect(5);
        x.repeat(0);
        x.repeat(0);
        Due.deliver(x, 0, 0, 1);
        Due.be("a second reply", x.deliver(1), 1);
        Due.be("endpoint 1 is not open yet", x.endpoint(1, 0), 2);
        Due.deliver(x, 1);
        Due.be("an open one takes no hello", x.deliver(0), 1);
        Due.event(x, 0, 1, 0, 1);
        Due.be("counted", x.results(1, 1), 1);
        Due.be("counted for 0", x.results(0, 1), 1);
        x = Due.opened();
        x.send(0, 1);
        x.send(1, 2);
        x.disconnect();
        x.connect(1);
        x.alter(0, 60);
        x.deliver(0);
        x.repeat(0);
        Due.deliver(x, 0);
        Due.be("idle takes no refusal", x.deliver(0), 1);
    }

    /** A copy of each kind is kept while both endpoints close, and is delivered to the closed ones. */
    private static void promise8ClosedStates() {
        SessionSimulator x = new SessionSimulator();
        x.connect(5);
        x.repeat(0);
        Due.deliver(x, 0);
        x.repeat(1);
        Due.deliver(x, 1);
        x.repeat(2);
        Due.deliver(x, 2);
        x.repeat(3);
        Due.deliver(x, 3);
        Due.be("hello, reply, finish, ticket", x.count(0), 4);
        x.close(0);
        x.close(1);
        Due.deliver(x, 4, 4, 4, 4);
        Due.be("both are closed", x.endpoint(0, 0) * 10 + x.endpoint(1, 0), 44);
        Due.be("a closed endpoint 0 takes no reply", x.foresee(1), 1);
        Due.be("nor a ticket", x.foresee(3), 1);
        Due.be("a closed endpoint 1 takes a finish", x.foresee(2), 6);
        Due.be("and a hello", x.foresee(0), 0);
    }

    private static void promise8SessionsAndTickets() {
        SessionSimulator x = new SessionSimulator();
        x.connect(5);
        x.repeat(0);
        Due.deliver(x, 0, 0, 0);
        Due.be("the reply to the second hello", x.deliver(0), 1);
        Due.deliver(x, 0, 0);
        Due.be("they agree by the first one", x.agree(), 1);
        Due.be("one ticket", x.endpoint(1, 11), 1);
        x = Due.opened();
        x.disconnect();
        x.resume(1);
        x.repeat(0);
        Due.deliver(x, 0);
        Due.be("the ticket is used", x.deliver(0), 8);
        Due.be("endpoint 1 has replied still", x.endpoint(1, 0), 2);
        Due.be("a refusal behind the reply", x.packet(1, 1), 2);
        Due.deliver(x, 1);
        Due.be("it comes first", x.endpoint(0, 0), 0);
        Due.be("the reply is late", x.deliver(0), 1);
        Due.be("counted", x.results(1, 8), 1);
    }

    private static void promise8WithoutRoom() {
        SessionSimulator x = Due.opened();
        x.send(0, 1);
        x.send(0, 2);
        x.send(1, 3);
        Due.fillNetwork(x);
        int sent = x.count(1);
        Due.deliver(x, 0);
        Due.be("room for the acknowledgement", x.count(1), sent + 1);
        Due.be("full again", x.count(0), 24);
        x.send(0, 4);
        Due.be("no room", x.count(1), sent + 1);
        Due.deliver(x, 23);
        Due.be("the freed place is for what is due", x.packet(23, 6), 4);
        Due.be("sent", x.count(1), sent + 2);
    }

    /** Endpoint 1 opens by a message: its ticket takes the room of the acknowledgement. */
    private static void promise8TicketWithoutRoom() {
        SessionSimulator x = new SessionSimulator();
        x.connect(5);
        x.send(0, 9);
        Due.deliver(x, 0, 0);
        Due.be("finish and message", x.count(0), 2);
        Due.fillNetwork(x);
        Due.deliver(x, 1);
        Due.be("taken", x.taken(1, 0), 9);
        Due.be("a ticket", x.packet(23, 1), 6);
        Due.be("and nothing else", x.endpoint(1, 3), 1);
        x = Due.opened();
        for (int ticket = 1; ticket < 16; ticket++) {
            x.disconnect();
            x.connect(ticket);
            Due.deliver(x, 0, 0, 0, 0);
            Due.be("ticket", x.endpoint(0, 11), ticket);
        }
        Due.be("16 issued", x.endpoint(1, 11), 16);
        x.disconnect();
        x.connect(1);
        Due.deliver(x, 0, 0, 0);
        Due.be("a 17th is not", x.count(0), 0);
        Due.be("nor counted", x.endpoint(1, 11), 16);
        x.disconnect();
        x.resume(1);
        Due.be("the 16th is good", x.deliver(0), 0);
    }

    private static void promise9Foresee() {
        SessionSimulator x = Due.opened();
        x.send(0, 1);
        x.repeat(0);
        Due.be("foresee(0)", x.foresee(0), 0);
        Due.be("foresee(2)", x.foresee(2), Due.NONE);
        Due.be("foresee(-1)", x.foresee(-1), Due.NONE);
        Due.be("nothing is delivered", x.count(2), 4);
        Due.be("nor counted", x.results(1, 0), 2);
        Due.be("nor logged", x.event(0, 0), 0);
        Due.be("nor taken out", x.count(0), 2);
        Due.deliver(x, 0);
        Due.be("the copy now", x.foresee(0), 6);
        x.alter(0, 1);
        Due.be("the tag is looked at before", x.foresee(0), 4);
        x.disconnect();
        x.connect(1);
        Due.be("a hello", x.foresee(0), 0);
        x.repeat(0);
        Due.deliver(x, 1);
        Due.be("a reply", x.foresee(1), 0);
        x.alter(0, 9);
        Due.be("with a bad ticket", x.foresee(0), 8);
    }

    private static void promise10Drop() {
        SessionSimulator x = Due.opened();
        x.send(0, 1);
        x.send(1, 2);
        x.close(0);
        Due.be("drop(3)", x.drop(3), Due.NONE);
        Due.be("drop(-1)", x.drop(-1), Due.NONE);
        Due.be("drop(1)", x.drop(1), 2);
        Due.event(x, 0, 2, 1, 4);
        Due.be("the others stay in order", x.packet(0, 1) * 10 + x.packet(1, 1), 47);
        Due.be("drop(1) again", x.drop(1), 1);
        Due.event(x, 0, 2, 0, 7);
        Due.be("dropped", x.count(3), 2);
        Due.be("not delivered", x.count(2), 4);
        Due.be("drop(0)", x.drop(0), 0);
        Due.be("drop(0) of none", x.drop(0), Due.NONE);
        Due.be("dropped three", x.count(3), 3);
    }

    private static void promise11Repeat() {
        SessionSimulator x = Due.opened();
        x.send(0, 1);
        x.send(0, 2);
        int sent = x.count(1);
        Due.be("repeat(0)", x.repeat(0), 3);
        for (int what = 0; what <= 8; what++) {
            Due.be("copy of " + what, x.packet(2, what), x.packet(0, what));
        }
        Due.be("repeat(3)", x.repeat(3), Due.NONE);
        Due.be("repeat(-1)", x.repeat(-1), Due.NONE);
        Due.be("made by repeating", x.count(4), 1);
        Due.be("not sent", x.count(1), sent);
        Due.event(x, 0, 0, 0, 4);
        Due.be("no event", x.event(0, 1), 0);
        x.alter(2, 5);
        Due.be("the copy is altered alone", x.packet(0, 6) * 10 + x.packet(2, 6), 16);
        Due.fillNetwork(x);
        Due.be("24 packets", x.repeat(23), Due.FULL);
        Due.be("none before full", x.repeat(24), Due.NONE);
        Due.be("22 repeated", x.count(4), 22);
    }

    private static void promise12Alter() {
        SessionSimulator x = Due.opened();
        x.send(0, 50);
        int tag = x.packet(0, 8);
        Due.be("alter(0, 99)", x.alter(0, 99), 149);
        Due.be("alter(0, -99)", x.alter(0, -99), 50);
        Due.be("alter(0, 0)", x.alter(0, 0), 50);
        Due.be("alter(0, -60)", x.alter(0, -60), -10);
        Due.be("b", x.packet(0, 6), -10);
        Due.be("the tag stays", x.packet(0, 8), tag);
        Due.be("a stays", x.packet(0, 5), 0);
        Due.be("alter(0, 100)", x.alter(0, 100), Due.BAD);
        Due.be("alter(0, -100)", x.alter(0, -100), Due.BAD);
        Due.be("alter(1, 0)", x.alter(1, 0), Due.NONE);
        Due.be("none comes first", x.alter(1, 100), Due.NONE);
        Due.be("alter(-1, 0)", x.alter(-1, 0), Due.NONE);
        Due.be("kept value stays", x.kept(0, 0, 1), 50);
        Due.be("wrong tag", x.deliver(0), 4);
        Due.be("not taken", x.endpoint(1, 8), 0);
        x.tick(3);
        x.alter(0, 1);
        x.alter(0, -1);
        Due.be("altered back", x.deliver(0), 0);
        Due.be("taken", x.taken(1, 0), 50);
    }

    /** A reply and a refusal have no tag, and b means nothing in them. */
    private static void promise12AnyPacket() {
        SessionSimulator x = new SessionSimulator();
        x.connect(5);
        Due.deliver(x, 0);
        Due.be("a reply", x.alter(0, 3), 3);
        Due.deliver(x, 0);
        Due.be("a finish", x.alter(0, 3), 3);
        Due.be("has a tag", x.deliver(0), 4);
        Due.be("endpoint 1 waits for another", x.endpoint(1, 0), 2);
        x.send(0, 1);
        Due.deliver(x, 0);
        Due.be("a ticket", x.alter(0, -3), -3);
        Due.be("has a tag, too", x.deliver(0), 4);
        Due.be("no ticket", x.endpoint(0, 11), -1);
        Due.be("an acknowledgement", x.alter(0, 1), 1);
        Due.be("has one, too", x.deliver(0), 4);
        x.close(0);
        x.alter(0, 1);
        Due.be("and a close", x.deliver(0), 4);
        Due.be("four wrong tags", x.results(0, 4) + x.results(1, 4), 4);
    }

    private static void promise14Packet() {
        SessionSimulator x = Due.opened();
        x.configure(1, 3, 20);
        x.send(1, 77);
        Due.deliver(x, 0);
        x.send(0, 66);
        int base = Due.base(5, Due.mix(5, Due.mix(1, 0)), 1);
        Due.packet(x, 0, 0, 5, 1, 1, 0, 0, 0, 1, Due.tag(base, 0, 5, 1, 0, 0, 0, 1));
        Due.packet(x, 1, 0, 4, 1, 2, 0, 0, 66, 1, Due.tag(base, 0, 4, 2, 0, 0, 66, 1));
        Due.deliver(x, 0, 0);
        Due.packet(x, 0, 1, 5, 1, 2, 0, 0, 0, 1, Due.tag(base, 1, 5, 2, 0, 0, 0, 1));
    }

    /** What is not mentioned is 0, also where a protected packet stood before. */
    private static void promise14PlainAfterProtected() {
        SessionSimulator x = Due.opened();
        x.configure(1, 3, 20);
        for (int i = 0; i < 3; i++) {
            x.send(0, i);
            x.send(1, i);
            Due.deliver(x, 0, 0, 0, 0);
        }
        x.send(0, 5);
        x.send(1, 6);
        Due.be("an epoch and an acknowledgement", x.packet(1, 3) > 0 && x.packet(1, 7) > 0 ? 1 : 0, 1);
        x.disconnect();
        x.connect(4);
        Due.packet(x, 0, 0, 0, 2, 0, 0, 4, -1, 0, 0);
        x.repeat(0);
        Due.deliver(x, 1);
        Due.packet(x, 1, 1, 1, 2, 0, 0, Due.mix(4, Due.mix(2, 0)), 0, 0, 0);
        x.alter(0, 80);
        Due.be("refused", x.deliver(0), 8);
        Due.packet(x, 1, 1, 2, 2, 0, 0, 0, 0, 0, 0);
    }

    private static void promise14WrongPositions() {
        SessionSimulator x = new SessionSimulator();
        Due.be("packet(0, 9) without one", x.packet(0, 9), Due.NONE);
        x.connect(3);
        Due.be("packet(0, 9)", x.packet(0, 9), Due.BAD);
        Due.be("packet(0, -1)", x.packet(0, -1), Due.BAD);
        Due.be("packet(1, 0)", x.packet(1, 0), Due.NONE);
        Due.be("packet(-1, 0)", x.packet(-1, 0), Due.NONE);
        Due.be("packet(24, 0)", x.packet(24, 0), Due.NONE);
        Due.be("none comes first", x.packet(1, 9), Due.NONE);
        Due.be("far positions", x.packet(Integer.MIN_VALUE, Integer.MAX_VALUE), Due.NONE);
    }
}
