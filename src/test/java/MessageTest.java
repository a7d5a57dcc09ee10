/** Promises 6, 7, 13, 17 and 18: messages, closes, ticks, what is taken and what is kept. */
public final class MessageTest {
    public static void main(String[] args) {
        promise6Send();
        promise6SendErrors();
        promise6OnlyThreeAhead();
        promise6WithoutRoom();
        promise7Close();
        promise7CloseErrors();
        promise7ClosedAcknowledges();
        promise7CloseAgain();
        promise7CloseOfAnotherStream();
        promise13Tick();
        promise13HelloAgain();
        promise13MessagesAgain();
        promise13EndpointZeroFirst();
        promise17TakenInOrder();
        promise17Reach();
        promise17EachWaits();
        promise17AnewAfterClosing();
        promise17WaitingClose();
        promise18Kept();
        promise18Acknowledged();
        Due.finish("MessageTest");
    }

    private static void promise6Send() {
        SessionSimulator x = Due.opened();
        int base = x.endpoint(0, 9);
        Due.be("send(0, -999)", x.send(0, -999), 0);
        Due.packet(x, 0, 0, 4, 1, 0, 1, 0, -999, 0, Due.tag(base, 0, 4, 0, 1, 0, -999, 0));
        Due.be("send(1, 999)", x.send(1, 999), 0);
        Due.packet(x, 1, 1, 4, 1, 0, 1, 0, 999, 0, Due.tag(base, 1, 4, 0, 1, 0, 999, 0));
        Due.be("send(0, 0)", x.send(0, 0), 1);
        Due.event(x, 0, 0, 0, 4);
        Due.event(x, 1, 0, 1, 4);
        Due.deliver(x, 0);
        Due.packet(x, 2, 1, 5, 1, 0, 2, 0, 0, 1, Due.tag(base, 1, 5, 0, 2, 0, 0, 1));
        Due.event(x, 1, 1, 4, 0);
        Due.event(x, 0, 0, 1, 5);
        Due.be("send(1, 1)", x.send(1, 1), 1);
        Due.packet(x, 3, 1, 4, 1, 0, 3, 1, 1, 1);
        x = new SessionSimulator();
        Due.be("idle endpoints keep messages", x.send(1, 4), 0);
        Due.be("and send none", x.count(0), 0);
        Due.be("not sent", x.kept(1, 0, 3), -1);
        x.connect(1);
        Due.be("a waiting one, too", x.send(0, 5), 0);
        Due.deliver(x, 0);
        Due.be("one that replied, too", x.send(1, 6), 0);
        Due.be("nothing but the reply", x.count(0), 1);
        Due.deliver(x, 0);
        Due.packet(x, 1, 0, 4, 1, 0, 1, 0, 5, 0);
        Due.deliver(x, 0);
        Due.packet(x, 2, 1, 4, 1, 0, 1, 0, 6, 0);
    }

    private static void promise6SendErrors() {
        SessionSimulator x = Due.opened();
        Due.be("send(-1, 0)", x.send(-1, 0), Due.BAD);
        Due.be("send(2, 0)", x.send(2, 0), Due.BAD);
        Due.be("send(0, 1000)", x.send(0, 1000), Due.BAD);
        Due.be("send(0, -1000)", x.send(0, -1000), Due.BAD);
        for (int i = 0; i < 16; i++) {
            Due.be("message " + i, x.send(0, i), i);
        }
        Due.be("a 17th", x.send(0, 1), Due.FULL);
        Due.be("close with 16", x.close(0), Due.FULL);
        Due.be("bad argument before full", x.send(0, 1000), Due.BAD);
        Due.be("three are in the network", x.count(0), 3);
        Due.deliver(x, 0, 2);
        Due.be("15 are kept", x.endpoint(0, 5), 15);
        Due.be("room for one", x.close(0), 16);
        Due.be("state before full", x.send(0, 1), Due.STATE);
        x = Due.closed();
        Due.be("closed 0", x.send(0, 1), Due.STATE);
        Due.be("closed 1", x.send(1, 1), Due.STATE);
        Due.be("bad argument before state", x.send(1, 1000), Due.BAD);
    }

    private static void promise6OnlyThreeAhead() {
        SessionSimulator x = Due.opened();
        for (int i = 0; i < 5; i++) {
            x.send(0, 10 + i);
        }
        Due.be("three are sent", x.count(0), 3);
        Due.be("message 3 is not", x.kept(0, 3, 3), -1);
        Due.deliver(x, 1, 2);
        Due.be("1 waits, nothing is acknowledged", x.count(0), 2);
        Due.deliver(x, 0);
        Due.be("0 and 1 are taken", x.endpoint(1, 6), 2);
        Due.deliver(x, 1);
        Due.be("3 and 4 are sent at once", x.count(0), 3);
        Due.packet(x, 1, 0, 4, 1, 0, 4, 3, 13);
        Due.packet(x, 2, 0, 4, 1, 0, 5, 4, 14);
    }

    private static void promise6WithoutRoom() {
        SessionSimulator x = Due.opened();
        x.configure(2, 1, 20);
        x.send(1, 1);
        Due.fillNetwork(x);
        x.send(0, 5);
        Due.be("sequence 1 has been free", x.endpoint(0, 3), 1);
        Due.be("not sent", x.kept(0, 0, 3), -1);
        Due.be("kept", x.endpoint(0, 5), 1);
        x.drop(0);
        x.send(0, 6);
        Due.be("the lower one goes first", x.kept(0, 0, 3), 0);
        Due.be("the other has no room", x.kept(0, 1, 3), -1);
        Due.be("sequence is used", x.endpoint(0, 3), 2);
        Due.be("the epoch stays without room", x.endpoint(0, 2), 0);
        x.drop(0);
        x.tick(1);
        Due.be("0 was sent again, 1 waits for room", x.kept(0, 1, 3), -1);
        Due.be("with a new epoch", x.endpoint(0, 2), 1);
        Due.be("and sequence", x.endpoint(0, 3), 1);
        Due.be("sent at this time", x.kept(0, 0, 3), 1);
        x.tick(1);
        Due.be("no room, not sent any more", x.kept(0, 0, 3), -1);
        Due.be("nor in endpoint 1", x.kept(1, 0, 3), -1);
    }

    private static void promise7Close() {
        SessionSimulator x = Due.opened();
        int base = x.endpoint(0, 9);
        x.send(0, 3);
        Due.be("close(0)", x.close(0), 1);
        Due.packet(x, 1, 0, 7, 1, 0, 2, 1, 0, 0, Due.tag(base, 0, 7, 0, 2, 1, 0, 0));
        Due.deliver(x, 0, 0);
        Due.be("the close is taken", x.endpoint(1, 6), 2);
        Due.be("but is no value", x.endpoint(1, 8), 1);
        Due.be("nor in the list", x.taken(1, 1), Due.NONE);
        Due.be("endpoint 1 is open", x.endpoint(1, 0), 3);
        Due.be("and may send", x.send(1, 4), 0);
        Due.be("close(1)", x.close(1), 1);
        Due.deliver(x, 0, 0);
        Due.be("0 keeps nothing, and waits for the close", x.endpoint(0, 5), 0);
        Due.be("open", x.endpoint(0, 0), 3);
        Due.deliver(x, 0, 0);
        Due.be("closed", x.endpoint(0, 0), 4);
        Due.event(x, 2, 1, 7, 0);
        Due.event(x, 1, 0, 0, 5);
        Due.event(x, 0, 3, 0, 4);
        Due.be("1 waits for the acknowledgement", x.endpoint(1, 0), 3);
        Due.deliver(x, 1);
        Due.be("1 is closed", x.endpoint(1, 0), 4);
        Due.event(x, 1, 1, 5, 0);
        Due.event(x, 0, 3, 1, 4);
        Due.be("a closed one knows its session", x.endpoint(1, 1), 1);
    }

    private static void promise7CloseErrors() {
        SessionSimulator x = Due.opened();
        Due.be("close(-1)", x.close(-1), Due.BAD);
        Due.be("close(2)", x.close(2), Due.BAD);
        Due.be("close(1)", x.close(1), 0);
        Due.be("close(1) again", x.close(1), Due.STATE);
        Due.be("send(1, 1) after it", x.send(1, 1), Due.STATE);
        Due.be("one message is kept", x.endpoint(1, 5), 1);
        Due.be("one packet", x.count(0), 1);
        x = Due.closed();
        Due.be("closed", x.close(0), Due.STATE);
        x = new SessionSimulator();
        Due.be("an idle endpoint may close", x.close(0), 0);
        Due.be("once", x.close(0), Due.STATE);
        Due.be("and keeps it", x.kept(0, 0, 2), 1);
    }

    private static void promise7ClosedAcknowledges() {
        SessionSimulator x = Due.opened();
        x.close(0);
        Due.deliver(x, 0, 0);
        x.close(1);
        x.repeat(0);
        Due.deliver(x, 0);
        Due.be("0 is closed", x.endpoint(0, 0), 4);
        Due.be("a copy is a replay", x.deliver(0), 6);
        Due.be("only the acknowledgement", x.count(0), 1);
        x.drop(0);
        x.tick(3);
        Due.packet(x, 0, 1, 7, 1, 0, 3, 0, 0, 1);
        Due.be("the close is sent again", x.count(0), 1);
        Due.deliver(x, 0);
        Due.packet(x, 0, 0, 5, 1, 0, 3, 0, 0, 1);
        Due.be("closed still", x.endpoint(0, 0), 4);
        Due.deliver(x, 0);
        Due.be("1 is closed now", x.endpoint(1, 0), 4);
        x = Due.opened();
        x.close(1);
        x.close(0);
        x.tick(3);
        Due.deliver(x, 0, 0, 2, 2);
        Due.be("both are closed", x.endpoint(0, 0) * 10 + x.endpoint(1, 0), 44);
        Due.deliver(x, 0);
        Due.be("endpoint 1 acknowledges a close again", x.packet(1, 1), 5);
    }

    private static void promise7CloseAgain() {
        SessionSimulator x = Due.opened();
        x.send(0, 1);
        x.close(0);
        x.tick(3);
        Due.be("all are sent twice", x.count(0), 4);
        Due.deliver(x, 0, 0, 0, 0);
        Due.be("accepted each time", x.results(1, 0), 6);
        Due.be("four acknowledgements", x.count(0), 4);
        Due.be("taken once", x.endpoint(1, 8), 1);
        Due.be("expected", x.endpoint(1, 6), 2);
        x = Due.opened();
        x.send(0, 1);
        x.tick(3);
        Due.deliver(x, 0, 0);
        Due.be("what was taken does not wait", x.endpoint(1, 7), 0);
    }

    /** With an altered ticket, endpoint 1 keeps the close of a stream that endpoint 0 has left. */
    private static void promise7CloseOfAnotherStream() {
        SessionSimulator x = Due.opened();
        x.close(0);
        Due.deliver(x, 0, 0);
        x.disconnect();
        x.connect(2);
        x.alter(0, 1);
        Due.deliver(x, 0, 0, 0, 0);
        Due.be("opened with ticket 1", x.endpoint(0, 11), 1);
        x.send(0, 7);
        Due.deliver(x, 0);
        Due.be("0 is not greater than the close", x.endpoint(1, 8), 0);
        Due.deliver(x, 0);
        x.send(0, 8);
        Due.be("1 is", x.deliver(0), 7);
        Due.be("counted", x.results(1, 7), 1);
        Due.be("no acknowledgement", x.count(0), 0);
        x.close(0);
        Due.be("a close is, too", x.deliver(0), 7);
        x.close(1);
        Due.deliver(x, 0);
        Due.be("0 has the close of 1", x.endpoint(0, 6), 1);
        Due.deliver(x, 0);
        Due.be("1 has taken the old close, and is closed", x.endpoint(1, 0), 4);
        x.disconnect();
        x.connect(3);
        Due.deliver(x, 0);
        Due.be("a closed endpoint replies", x.endpoint(1, 0), 2);
        Due.be("and has no close any more", x.send(1, 1), 0);
    }

    private static void promise13Tick() {
        SessionSimulator x = new SessionSimulator();
        Due.be("tick(0)", x.tick(0), Due.BAD);
        Due.be("tick(-1)", x.tick(-1), Due.BAD);
        Due.be("tick(51)", x.tick(51), Due.BAD);
        Due.be("time stays", x.count(5), 0);
        Due.be("tick(1)", x.tick(1), 1);
        Due.be("tick(50)", x.tick(50), 51);
        Due.be("time", x.count(5), 51);
        Due.be("no events", x.event(0, 0), Due.NONE);
    }

    private static void promise13HelloAgain() {
        SessionSimulator x = Due.opened();
        x.disconnect();
        x.tick(2);
        x.resume(8);
        x.alter(0, 7);
        int sent = x.count(1);
        x.tick(2);
        Due.be("not before the timeout", x.count(0), 1);
        x.tick(1);
        Due.be("at the timeout", x.count(0), 2);
        Due.packet(x, 1, 0, 0, 2, 0, 0, 8, 0, 0, 0);
        Due.event(x, 0, 0, 0, 0);
        Due.be("counts as sent", x.count(1), sent + 1);
        x.tick(7);
        Due.be("every three ticks", x.count(0), 4);
        Due.fillNetwork(x);
        x.tick(5);
        x.drop(0);
        sent = x.count(1);
        x.tick(1);
        Due.be("at the first tick with room", x.count(1), sent + 1);
        x.drop(0);
        x.tick(2);
        Due.be("that is its time then", x.count(1), sent + 1);
        x.tick(1);
        Due.be("three ticks later", x.count(1), sent + 2);
    }

    private static void promise13MessagesAgain() {
        SessionSimulator x = Due.opened();
        x.send(0, 1);
        x.tick(2);
        x.send(0, 2);
        Due.be("two packets", x.count(0), 2);
        x.tick(1);
        Due.be("only 0 again", x.count(0), 3);
        Due.packet(x, 2, 0, 4, 1, 0, 3, 0, 1);
        Due.be("sent at 3", x.kept(0, 0, 3), 3);
        Due.be("sent at 2", x.kept(0, 1, 3), 2);
        x.tick(2);
        Due.packet(x, 3, 0, 4, 1, 0, 4, 1, 2);
        Due.be("four", x.count(0), 4);
    }

    private static void promise13EndpointZeroFirst() {
        SessionSimulator x = Due.opened();
        x.send(1, 1);
        x.send(0, 2);
        x.tick(3);
        Due.be("endpoint 0 first", x.packet(2, 0), 0);
        Due.be("endpoint 1 after it", x.packet(3, 0), 1);
        Due.event(x, 1, 0, 0, 4);
        Due.event(x, 0, 0, 1, 4);
    }

    private static void promise17TakenInOrder() {
        SessionSimulator x = Due.opened();
        x.send(0, 11);
        x.send(0, 12);
        x.send(0, 13);
        Due.deliver(x, 2);
        Due.be("13 waits", x.endpoint(1, 7), 1);
        Due.be("nothing taken", x.taken(1, 0), Due.NONE);
        Due.deliver(x, 1);
        Due.be("12 waits", x.endpoint(1, 7), 2);
        Due.be("expects 0", x.endpoint(1, 6), 0);
        x.tick(3);
        Due.deliver(x, 4);
        Due.be("12 waits already", x.endpoint(1, 7), 2);
        Due.deliver(x, 0);
        Due.be("11", x.taken(1, 0), 11);
        Due.be("12", x.taken(1, 1), 12);
        Due.be("13", x.taken(1, 2), 13);
        Due.be("no more", x.taken(1, 3), Due.NONE);
        Due.be("none waits", x.endpoint(1, 7), 0);
        Due.be("expects 3", x.endpoint(1, 6), 3);
        Due.be("three taken", x.endpoint(1, 8), 3);
        Due.be("taken(1, -1)", x.taken(1, -1), Due.NONE);
        Due.be("taken(2, 0)", x.taken(2, 0), Due.NONE);
        Due.be("taken(-1, 0)", x.taken(-1, 0), Due.NONE);
        Due.be("taken(1, far)", x.taken(1, Integer.MAX_VALUE), Due.NONE);
        Due.be("taken(0, 0)", x.taken(0, 0), Due.NONE);
    }

    /** With an altered ticket, endpoint 0 sends message 3 and 4 to an endpoint 1 that expects 0. */
    private static void promise17Reach() {
        SessionSimulator x = Due.opened();
        for (int i = 0; i < 3; i++) {
            x.send(0, 20 + i);
            Due.deliver(x, 0, 0);
        }
        x.disconnect();
        x.resume(1);
        x.alter(0, -1);
        Due.deliver(x, 0, 0, 0, 0);
        Due.be("1 expects 0", x.endpoint(1, 6), 0);
        x.send(0, 23);
        x.send(0, 24);
        Due.deliver(x, 0);
        Due.be("3 is in reach", x.endpoint(1, 7), 1);
        Due.deliver(x, 0);
        Due.be("4 is not", x.endpoint(1, 7), 1);
        Due.be("both are acknowledged", x.count(0), 2);
        Due.packet(x, 1, 1, 5, 2, 0, 2, 0, 0, 0);
        Due.be("nothing taken", x.endpoint(1, 8), 0);
    }

    /** Messages 1 to 7 wait in turn, so that each place for a waiting one is used. */
    private static void promise17EachWaits() {
        SessionSimulator x = Due.opened();
        for (int number = 0; number < 8; number += 2) {
            x.send(0, 30 + number);
            x.send(0, 31 + number);
            Due.deliver(x, 1);
            Due.be("one waits", x.endpoint(1, 7), 1);
            Due.be("expects the lower one", x.endpoint(1, 6), number);
            Due.deliver(x, 0);
            Due.be("none waits", x.endpoint(1, 7), 0);
            Due.be("the lower one", x.taken(1, number), 30 + number);
            Due.be("the higher one", x.taken(1, number + 1), 31 + number);
            Due.deliver(x, 0, 0);
        }
        x.send(0, 1);
        Due.deliver(x, 0, 0);
        for (int number = 9; number < 15; number += 2) {
            x.send(0, 30 + number);
            x.send(0, 31 + number);
            Due.deliver(x, 1);
            Due.be("one waits at an even number", x.endpoint(1, 7), 1);
            x.save();
            x.disconnect();
            Due.be("none after disconnecting", x.endpoint(1, 7), 0);
            x.restore();
            Due.deliver(x, 0, 0, 0);
            Due.be("all are taken", x.endpoint(1, 8), number + 2);
        }
    }

    private static void promise17AnewAfterClosing() {
        SessionSimulator x = Due.closed();
        x.connect(8);
        Due.deliver(x, 0, 0, 0, 0);
        x.send(0, 71);
        x.send(1, 72);
        Due.deliver(x, 0, 0, 0, 0);
        Due.be("1 takes again", x.taken(1, 0), 71);
        Due.be("0 takes again", x.taken(0, 0), 72);
        x.close(0);
        Due.deliver(x, 0, 0);
        Due.be("one close does not close", x.endpoint(0, 0) * 10 + x.endpoint(1, 0), 33);
    }

    private static void promise17WaitingClose() {
        SessionSimulator x = Due.opened();
        x.send(1, 5);
        x.close(1);
        Due.deliver(x, 1);
        Due.be("the close waits", x.endpoint(0, 7), 1);
        x.close(0);
        Due.deliver(x, 2, 2);
        Due.be("0 is open: its close is acknowledged only", x.endpoint(0, 0), 3);
        Due.deliver(x, 0);
        Due.be("5 and the close are taken", x.endpoint(0, 6), 2);
        Due.be("5", x.taken(0, 0), 5);
        Due.be("closed at last", x.endpoint(0, 0), 4);
    }

    private static void promise18Kept() {
        SessionSimulator x = Due.opened();
        x.tick(2);
        x.send(1, 7);
        x.tick(1);
        x.send(1, 8);
        x.send(1, 9);
        x.close(1);
        int[][] want = {{0, 7, 0, 2}, {1, 8, 0, 3}, {2, 9, 0, 3}, {3, 0, 1, -1}};
        for (int index = 0; index < 4; index++) {
            for (int what = 0; what < 4; what++) {
                Due.be("kept(1, " + index + ", " + what + ")", x.kept(1, index, what), want[index][what]);
            }
        }
        Due.be("kept(1, 4, 0)", x.kept(1, 4, 0), Due.NONE);
        Due.be("kept(1, -1, 0)", x.kept(1, -1, 0), Due.NONE);
        Due.be("kept(2, 0, 0)", x.kept(2, 0, 0), Due.NONE);
        Due.be("kept(-1, 0, 0)", x.kept(-1, 0, 0), Due.NONE);
        Due.be("kept(1, 0, 4)", x.kept(1, 0, 4), Due.BAD);
        Due.be("kept(1, 0, -1)", x.kept(1, 0, -1), Due.BAD);
        Due.be("kept(1, 16, 4), none comes first", x.kept(1, 16, 4), Due.NONE);
        Due.be("kept(0, 0, 0)", x.kept(0, 0, 0), Due.NONE);
        Due.deliver(x, 0, 2);
        Due.be("the lowest is gone", x.kept(1, 0, 0), 1);
        Due.be("with its value", x.kept(1, 0, 1), 8);
        Due.be("and its time", x.kept(1, 0, 3), 3);
        Due.be("the close is sent", x.kept(1, 2, 3), 3);
        Due.be("and is a close", x.kept(1, 2, 2), 1);
    }

    /** Each protected packet acknowledges, also messages that are not sent. */
    private static void promise18Acknowledged() {
        SessionSimulator x = Due.opened();
        x.send(0, 1);
        x.send(0, 2);
        Due.deliver(x, 0);
        x.send(1, 3);
        Due.packet(x, 2, 1, 4, 1, 0, 2, 0, 3, 1);
        Due.deliver(x, 2);
        Due.be("a message acknowledges", x.kept(0, 0, 0), 1);
        Due.deliver(x, 1);
        Due.be("a late acknowledgement changes nothing", x.endpoint(0, 5), 1);
        x = Due.opened();
        x.send(0, 1);
        Due.deliver(x, 0, 0);
        x.disconnect();
        x.connect(2);
        x.alter(0, 1);
        x.send(0, 9);
        Due.deliver(x, 0, 0, 0);
        Due.be("the ticket of endpoint 1 acknowledges 0", x.packet(1, 7), 1);
        Due.deliver(x, 1);
        Due.be("so 9 is gone", x.endpoint(0, 5), 0);
    }
}
