/** Promises 1 to 13: a new object, and the methods that begin, send, deliver and let time pass. */
final class MethodSentences {
    private static final int LEAST = Integer.MIN_VALUE;
    private static final int MOST = Integer.MAX_VALUE;

    private MethodSentences() {
    }

    static void all() {
        promise1();
        promise2();
        promise3();
        promise4();
        promise5();
        promise6();
        promise7();
        promise8();
        promise9();
        promise10();
        promise11();
        promise12();
        promise13();
    }

    private static void promise1() {
        newSettings();
        newIsEmpty();
    }

    private static void newSettings() {
        Doc.says("Promise 1", "Creates a simulator with the key limit 6, the timeout 3 and the ticket life 20");
        Due.be("settings", new SessionSimulator().configure(1, 1, 1), 6320);
        SessionSimulator x = Due.opened();
        x.send(0, 5);
        x.tick(2);
        Due.be("packets after 2 ticks", x.count(0), 1);
        x.tick(1);
        Due.be("packets after 3 ticks", x.count(0), 2);
        x.tick(12);
        Due.packet(x, 4, 0, 4, 1, 0, 5);
        Due.packet(x, 5, 0, 4, 1, 1, 0);
        x.disconnect();
        x.tick(5);
        x.resume(1);
        Due.be("20 ticks after the ticket", x.foresee(0), 0);
        x.tick(1);
        Due.be("21 ticks after the ticket", x.foresee(0), 8);
    }

    private static void newIsEmpty() {
        Doc.says("Promise 1", "an empty network and no sessions.");
        SessionSimulator x = new SessionSimulator();
        Due.be("packets", x.count(0), 0);
        Due.be("packet(0, 0)", x.packet(0, 0), Due.NONE);
        Due.be("session number", x.count(7), 0);
        Due.be("session of 0", x.endpoint(0, 1), 0);
        Due.be("session of 1", x.endpoint(1, 1), 0);
        Due.be("sent, delivered, dropped, repeated, time", x.count(1) + x.count(2) + x.count(3) + x.count(4)
            + x.count(5), 0);
    }

    private static void promise2() {
        keyLimitRange();
        timeoutRange();
        lifeRange();
        previousSettings();
    }

    private static void keyLimitRange() {
        Doc.says("Promise 2", "- `keyLimit`: the key limit, 1 to 20");
        SessionSimulator x = new SessionSimulator();
        Due.be("0", x.configure(0, 3, 20), Due.BAD);
        Due.be("21", x.configure(21, 3, 20), Due.BAD);
        Due.be("-1", x.configure(-1, 3, 20), Due.BAD);
        Due.be("the least int", x.configure(LEAST, 3, 20), Due.BAD);
        Due.be("the greatest int", x.configure(MOST, 3, 20), Due.BAD);
        Due.be("1", x.configure(1, 3, 20), 6320);
        Due.be("20", x.configure(20, 3, 20), 1320);
        Due.be("after 20", x.configure(6, 3, 20), 20320);
    }

    private static void timeoutRange() {
        Doc.says("Promise 2", "- `timeout`: the timeout, 1 to 9");
        SessionSimulator x = new SessionSimulator();
        Due.be("0", x.configure(6, 0, 20), Due.BAD);
        Due.be("10", x.configure(6, 10, 20), Due.BAD);
        Due.be("-1", x.configure(6, -1, 20), Due.BAD);
        Due.be("the least int", x.configure(6, LEAST, 20), Due.BAD);
        Due.be("the greatest int", x.configure(6, MOST, 20), Due.BAD);
        Due.be("1", x.configure(6, 1, 20), 6320);
        Due.be("9", x.configure(6, 9, 20), 6120);
        Due.be("after 9", x.configure(6, 3, 20), 6920);
    }

    private static void lifeRange() {
        Doc.says("Promise 2", "- `life`: the ticket life, 0 to 50");
        SessionSimulator x = new SessionSimulator();
        Due.be("-1", x.configure(6, 3, -1), Due.BAD);
        Due.be("51", x.configure(6, 3, 51), Due.BAD);
        Due.be("the least int", x.configure(6, 3, LEAST), Due.BAD);
        Due.be("the greatest int", x.configure(6, 3, MOST), Due.BAD);
        Due.be("0", x.configure(6, 3, 0), 6320);
        Due.be("50", x.configure(6, 3, 50), 6300);
        Due.be("after 50", x.configure(6, 3, 20), 6350);
    }

    private static void previousSettings() {
        Doc.says("Promise 2", "Returns the previous settings as 1000 * keyLimit + 100 * timeout + life; BAD_ARGUMENT"
            + " if an argument is out of range.");
        SessionSimulator x = new SessionSimulator();
        Due.be("the least", x.configure(1, 1, 0), 6320);
        Due.be("the greatest", x.configure(20, 9, 50), 1100);
        Due.be("all three out of range", x.configure(0, 0, -1), Due.BAD);
        Due.be("settings after an error", x.configure(7, 8, 9), 20950);
        Due.be("the last settings", x.configure(7, 8, 9), 7809);
    }

    private static void promise3() {
        sessionNumberAtFirst();
        connectNonce();
        connectState();
        connectFull();
    }

    private static void sessionNumberAtFirst() {
        Doc.says("Promise 3", "Begins a session: the session number, at first 0, is increased by 1, endpoint 0 begins"
            + " its stream anew, waits for a reply, and sends a hello without a ticket.");
        SessionSimulator x = new SessionSimulator();
        x.send(0, 5);
        Due.be("before", x.count(7), 0);
        Due.be("the first", x.connect(3), 1);
        Due.be("session number", x.count(7), 1);
        Due.be("no messages", x.endpoint(0, 5), 0);
        Due.be("waits", x.endpoint(0, 0), 1);
        Due.packet(x, 0, 0, 0, 1, 0, 0, 3, -1, 0, 0);
        x = Due.opened();
        x.disconnect();
        Due.be("the second", x.connect(3), 2);
        Due.packet(x, 0, 0, 0, 2, 0, 0, 3, -1, 0, 0);
        Due.be("its ticket is kept", x.endpoint(0, 11), 0);
    }

    private static void connectNonce() {
        Doc.says("Promise 3", "- `nonce`: the nonce, 0 to 9999");
        SessionSimulator x = new SessionSimulator();
        Due.be("-1", x.connect(-1), Due.BAD);
        Due.be("10000", x.connect(10000), Due.BAD);
        Due.be("the least int", x.connect(LEAST), Due.BAD);
        Due.be("the greatest int", x.connect(MOST), Due.BAD);
        Due.be("0", x.connect(0), 1);
        x.disconnect();
        Due.be("9999", x.connect(9999), 2);
    }

    private static void connectState() {
        Doc.says("Promise 3", "STATE if endpoint 0 is not idle and not closed");
        SessionSimulator x = new SessionSimulator();
        Due.be("idle", x.connect(1), 1);
        Due.be("waits", x.connect(1), Due.STATE);
        Due.deliver(x, 0);
        Due.be("endpoint 1 has replied", x.connect(1), Due.STATE);
        Due.deliver(x, 0);
        Due.be("open", x.connect(1), Due.STATE);
        Due.be("session number", x.count(7), 1);
        Due.be("closed", Due.closed().connect(1), 2);
    }

    /** Endpoint 0 is idle by a refusal and has a ticket; the network is full. */
    private static SessionSimulator idleAndFull() {
        SessionSimulator x = Due.opened();
        x.disconnect();
        x.connect(7);
        x.alter(0, 50);
        x.repeat(0);
        x.deliver(0);
        Due.deliver(x, 1);
        Due.fillNetwork(x);
        return x;
    }

    private static void connectFull() {
        Doc.says("Promise 3", "FULL if there is no room for the packet.");
        SessionSimulator x = idleAndFull();
        Due.be("24 packets", x.connect(1), Due.FULL);
        x.drop(0);
        Due.be("23 packets", x.connect(1), 3);
        Due.be("packets", x.count(0), 24);
    }

    private static void promise4() {
        resumeKeepsTheStream();
        resumeNonce();
        resumeState();
        resumeWithoutATicket();
        resumeFull();
    }

    private static void resumeKeepsTheStream() {
        Doc.says("Promise 4", "Resumes: as connect, but endpoint 0 keeps its stream, and the hello has its ticket,"
            + " which it has no longer then.");
        SessionSimulator x = Due.opened();
        x.send(0, 5);
        x.send(1, 6);
        Due.deliver(x, 1);
        x.disconnect();
        Due.be("session number", x.resume(4), 2);
        Due.be("messages", x.endpoint(0, 5), 1);
        Due.be("expected", x.endpoint(0, 6), 1);
        Due.be("taken", x.taken(0, 0), 6);
        Due.be("waits", x.endpoint(0, 0), 1);
        Due.packet(x, 0, 0, 0, 2, 0, 0, 4, 0, 0, 0);
        Due.be("no ticket", x.endpoint(0, 11), -1);
        x.disconnect();
        Due.be("a second time", x.resume(4), Due.NONE);
    }

    private static SessionSimulator idleWithTicket() {
        SessionSimulator x = Due.opened();
        x.disconnect();
        return x;
    }

    private static void resumeNonce() {
        Doc.says("Promise 4", "- `nonce`: the nonce, 0 to 9999");
        SessionSimulator x = idleWithTicket();
        Due.be("-1", x.resume(-1), Due.BAD);
        Due.be("10000", x.resume(10000), Due.BAD);
        Due.be("the least int", x.resume(LEAST), Due.BAD);
        Due.be("the greatest int", x.resume(MOST), Due.BAD);
        Due.be("the ticket is there", x.endpoint(0, 11), 0);
        Due.be("9999", x.resume(9999), 2);
        Due.be("0", idleWithTicket().resume(0), 2);
    }

    private static void resumeState() {
        Doc.says("Promise 4", "STATE if endpoint 0 is not idle");
        SessionSimulator x = idleWithTicket();
        x.connect(1);
        Due.be("waits", x.resume(1), Due.STATE);
        Due.deliver(x, 0, 0);
        Due.be("open", x.resume(1), Due.STATE);
        Due.be("closed", Due.closed().resume(1), Due.STATE);
        Due.be("idle", idleWithTicket().resume(1), 2);
    }

    private static void resumeWithoutATicket() {
        Doc.says("Promise 4", "NONE if it has no ticket");
        SessionSimulator x = new SessionSimulator();
        Due.be("a new one", x.resume(1), Due.NONE);
        x.connect(5);
        Due.deliver(x, 0, 0, 0);
        x.disconnect();
        Due.be("the ticket was lost", x.resume(1), Due.NONE);
        Due.be("session number", x.count(7), 1);
        Due.be("no packet", x.count(0), 0);
    }

    private static void resumeFull() {
        Doc.says("Promise 4", "FULL if there is no room for the packet.");
        SessionSimulator x = idleAndFull();
        Due.be("24 packets", x.resume(1), Due.FULL);
        Due.be("the ticket is there", x.endpoint(0, 11), 0);
        x.drop(0);
        Due.be("23 packets", x.resume(1), 3);
        Due.packet(x, 23, 0, 0, 3, 0, 0, 1, 0);
    }

    private static void promise5() {
        bothAreIdleUnlessClosed();
        waitingIsDiscarded();
        disconnectEmptyAndFull();
    }

    private static void bothAreIdleUnlessClosed() {
        Doc.says("Promise 5", "Breaks the connection: the network is emptied, both endpoints are idle unless they are"
            + " closed");
        SessionSimulator x = new SessionSimulator();
        x.connect(5);
        for (int states : new int[] {10, 12, 32, 33}) {
            Due.be("states", x.endpoint(0, 0) * 10 + x.endpoint(1, 0), states);
            x.save();
            x.disconnect();
            Due.be("idle", x.endpoint(0, 0) * 10 + x.endpoint(1, 0), 0);
            Due.be("packets", x.count(0), 0);
            x.restore();
            Due.deliver(x, 0);
        }
        x = Due.opened();
        x.close(0);
        x.close(1);
        Due.deliver(x, 0, 0, 0);
        x.disconnect();
        Due.be("closed and idle", x.endpoint(0, 0) * 10 + x.endpoint(1, 0), 40);
        x = Due.closed();
        x.disconnect();
        Due.be("closed", x.endpoint(0, 0) * 10 + x.endpoint(1, 0), 44);
    }

    private static void waitingIsDiscarded() {
        Doc.says("Promise 5", "and what waits in them is discarded.");
        SessionSimulator x = Due.opened();
        for (int e = 0; e <= 1; e++) {
            x.send(e, 1);
            x.send(e, 2);
            x.send(e, 3);
        }
        Due.deliver(x, 5, 4, 2, 1);
        Due.be("2 wait in each", x.endpoint(0, 7) * 10 + x.endpoint(1, 7), 22);
        x.disconnect();
        Due.be("none wait", x.endpoint(0, 7) * 10 + x.endpoint(1, 7), 0);
        x.resume(3);
        Due.deliver(x, 0, 0);
        Due.deliver(x, Due.at(x, 0, 4));
        Due.be("number 0 alone is taken", x.endpoint(1, 8), 1);
        Due.be("expected", x.endpoint(1, 6), 1);
    }

    private static void disconnectEmptyAndFull() {
        Doc.says("Promise 5", "Returns the number of packets that were in the network.");
        SessionSimulator x = Due.opened();
        Due.be("empty", x.disconnect(), 0);
        Due.be("dropped", x.count(3), 0);
        x.connect(5);
        Due.be("one", x.disconnect(), 1);
        x.connect(5);
        Due.fillNetwork(x);
        Due.be("full", x.disconnect(), 24);
        Due.be("dropped", x.count(3), 25);
        Due.be("empty", x.disconnect(), 0);
    }

    private static void promise6() {
        sendAddsAndSends();
        sendEndpoint();
        sendValue();
        sendStates();
        sendFull();
    }

    private static void sendAddsAndSends() {
        Doc.says("Promise 6", "Adds a message to those of an endpoint, which then sends what is due.");
        SessionSimulator x = Due.opened();
        x.send(0, 5);
        Due.be("the first is sent at once", x.count(0), 1);
        x.send(0, 6);
        x.send(0, 7);
        Due.be("the third, too", x.count(0), 3);
        x.send(0, 8);
        Due.be("the fourth is not due", x.count(0), 3);
        Due.be("it is added", x.endpoint(0, 5), 4);
    }

    private static void sendEndpoint() {
        Doc.says("Promise 6", "- `endpoint`: the endpoint, 0 or 1");
        SessionSimulator x = new SessionSimulator();
        Due.be("-1", x.send(-1, 5), Due.BAD);
        Due.be("2", x.send(2, 5), Due.BAD);
        Due.be("the least int", x.send(LEAST, 5), Due.BAD);
        Due.be("the greatest int", x.send(MOST, 5), Due.BAD);
        Due.be("0", x.send(0, 5), 0);
        Due.be("1", x.send(1, 6), 0);
        Due.be("value of 0", x.kept(0, 0, 1), 5);
        Due.be("value of 1", x.kept(1, 0, 1), 6);
    }

    private static void sendValue() {
        Doc.says("Promise 6", "- `value`: the value, -999 to 999");
        SessionSimulator x = new SessionSimulator();
        Due.be("-1000", x.send(0, -1000), Due.BAD);
        Due.be("1000", x.send(0, 1000), Due.BAD);
        Due.be("the least int", x.send(0, LEAST), Due.BAD);
        Due.be("the greatest int", x.send(0, MOST), Due.BAD);
        Due.be("-999", x.send(0, -999), 0);
        Due.be("999", x.send(0, 999), 1);
        Due.be("the least value", x.kept(0, 0, 1), -999);
        Due.be("the greatest value", x.kept(0, 1, 1), 999);
    }

    private static void sendStates() {
        Doc.says("Promise 6", "STATE if the endpoint has a close of its own, or is closed");
        SessionSimulator x = Due.opened();
        x.close(0);
        Due.be("a close of its own", x.send(0, 1), Due.STATE);
        Due.be("a close of the other", x.send(1, 1), 0);
        Due.deliver(x, 0);
        Due.be("the close of the other is taken", x.send(1, 2), 1);
        Due.deliver(x, Due.at(x, 1, 5));
        Due.be("its close is acknowledged", x.endpoint(0, 5), 0);
        Due.be("a close that is not kept any more", x.send(0, 1), Due.STATE);
        Due.be("closed", Due.closed().send(0, 1), Due.STATE);
        Due.be("closed", Due.closed().send(1, 1), Due.STATE);
    }

    private static void sendFull() {
        Doc.says("Promise 6", "FULL if it keeps 16 messages.");
        SessionSimulator x = new SessionSimulator();
        for (int i = 0; i < 16; i++) {
            Due.be("message " + (i + 1), x.send(1, i), i);
        }
        Due.be("message 17", x.send(1, 16), Due.FULL);
        Due.be("the other endpoint has room", x.send(0, 16), 0);
    }

    private static void promise7() {
        closeAddsAndSends();
        closeEndpoint();
        closeStates();
        closeFull();
    }

    private static void closeAddsAndSends() {
        Doc.says("Promise 7", "Adds a close to the messages of an endpoint, which then sends what is due.");
        SessionSimulator x = Due.opened();
        x.send(0, 5);
        x.send(0, 6);
        Due.be("number", x.close(0), 2);
        Due.packet(x, 2, 0, 7, 1, 0, 3, 2, 0);
        for (int i = 0; i < 3; i++) {
            x.send(1, i);
        }
        Due.be("number", x.close(1), 3);
        Due.be("a fourth message is not due", x.count(0), 6);
        Due.be("a close", x.kept(1, 3, 2), 1);
    }

    private static void closeEndpoint() {
        Doc.says("Promise 7", "- `endpoint`: the endpoint, 0 or 1");
        SessionSimulator x = new SessionSimulator();
        Due.be("-1", x.close(-1), Due.BAD);
        Due.be("2", x.close(2), Due.BAD);
        Due.be("the least int", x.close(LEAST), Due.BAD);
        Due.be("the greatest int", x.close(MOST), Due.BAD);
        Due.be("0", x.close(0), 0);
        Due.be("1", x.close(1), 0);
    }

    private static void closeStates() {
        Doc.says("Promise 7", "BAD_ARGUMENT, STATE and FULL as for send.");
        SessionSimulator x = Due.opened();
        x.close(0);
        Due.be("a close of its own", x.close(0), Due.STATE);
        Due.be("a close of the other", x.close(1), 0);
        Due.be("closed", Due.closed().close(0), Due.STATE);
        Due.be("closed", Due.closed().close(1), Due.STATE);
    }

    private static void closeFull() {
        Doc.says("Promise 7", "Returns the number of the message; BAD_ARGUMENT, STATE and FULL as for send.");
        SessionSimulator x = new SessionSimulator();
        for (int i = 0; i < 15; i++) {
            x.send(0, i);
            x.send(1, i);
        }
        Due.be("message 16", x.close(0), 15);
        x.send(1, 15);
        Due.be("message 17", x.close(1), Due.FULL);
    }

    private static void promise8() {
        deliverTakesOut();
        deliverPosition();
        deliverWithoutPacket();
    }

    private static void deliverTakesOut() {
        Doc.says("Promise 8", "Takes a packet out of the network and delivers it.");
        SessionSimulator x = Due.opened();
        x.send(1, 5);
        Due.fillNetwork(x);
        x.deliver(23);
        Due.be("the last one makes room for its acknowledgement", x.packet(23, 1), 5);
        Due.be("packets", x.count(0), 24);
        Due.be("the first one, again", x.deliver(0), 6);
        Due.be("packets", x.count(0), 23);
        Due.be("the acknowledgement has moved up", x.packet(22, 1), 5);
    }

    private static void deliverPosition() {
        Doc.says("Promise 8", "- `position`: the position in the list, from 0");
        SessionSimulator x = Due.opened();
        x.send(0, 5);
        x.send(0, 6);
        Due.be("-1", x.deliver(-1), Due.NONE);
        Due.be("2", x.deliver(2), Due.NONE);
        Due.be("the least int", x.deliver(LEAST), Due.NONE);
        Due.be("the greatest int", x.deliver(MOST), Due.NONE);
        Due.be("1", x.deliver(1), 0);
        Due.be("the second waits", x.endpoint(1, 7), 1);
        Due.be("0", x.deliver(0), 0);
        Due.be("both are taken", x.endpoint(1, 8), 2);
    }

    private static void deliverWithoutPacket() {
        Doc.says("Promise 8", "Returns the result, 0 to 8; NONE if there is no such packet.");
        SessionSimulator x = new SessionSimulator();
        Due.be("an empty network", x.deliver(0), Due.NONE);
        x.connect(5);
        x.repeat(0);
        x.alter(0, 1);
        Due.be("ticket 0 is none", x.deliver(0), 8);
        Due.be("a hello", x.deliver(0), 0);
        Due.fillNetwork(x);
        Due.be("position 24 of 24", x.deliver(24), Due.NONE);
        Due.be("delivered", x.count(2), 2);
    }

    private static void promise9() {
        foreseeIsDeliverWithoutEffects();
        foreseePosition();
    }

    private static void foreseeIsDeliverWithoutEffects() {
        Doc.says("Promise 9", "Returns the result that delivering a packet would have now.");
        SessionSimulator x = Due.opened();
        x.configure(20, 1, 20);
        x.send(0, 5);
        x.tick(10);
        x.alter(10, 1);
        Due.be("packets", x.count(0), 11);
        Due.deliver(x, 8);
        int[] want = {5, 0, 0, 0, 0, 0, 0, 0, 0, 4};
        for (int position = 0; position < want.length; position++) {
            int events = x.event(0, 0) * 100 + x.event(0, 1) * 10 + x.event(0, 2);
            Due.be("foresee(" + position + ")", x.foresee(position), want[position]);
            Due.be("foresee(" + position + ") again", x.foresee(position), want[position]);
            Due.be("the latest event", x.event(0, 0) * 100 + x.event(0, 1) * 10 + x.event(0, 2), events);
        }
        Due.be("delivered", x.count(2), 5);
        Due.be("results", x.results(1, 0) * 100 + x.results(1, 4) * 10 + x.results(1, 5), 300);
        Due.be("packets", x.count(0), 11);
    }

    private static void foreseePosition() {
        Doc.says("Promise 9", "Returns the result; NONE if there is no such packet.");
        SessionSimulator x = new SessionSimulator();
        Due.be("an empty network", x.foresee(0), Due.NONE);
        x.connect(5);
        Due.be("0", x.foresee(0), 0);
        Due.be("-1", x.foresee(-1), Due.NONE);
        Due.be("1", x.foresee(1), Due.NONE);
        Due.be("the least int", x.foresee(LEAST), Due.NONE);
        Due.be("the greatest int", x.foresee(MOST), Due.NONE);
        Due.fillNetwork(x);
        Due.be("23", x.foresee(23), 0);
        Due.be("24", x.foresee(24), Due.NONE);
    }

    private static void promise10() {
        dropTakesOut();
        dropToTheLast();
    }

    private static void dropTakesOut() {
        Doc.says("Promise 10", "Takes a packet out of the network; it is lost.");
        SessionSimulator x = Due.opened();
        x.send(0, 5);
        x.send(0, 6);
        x.send(0, 7);
        x.drop(1);
        Due.be("the first stays", x.packet(0, 6), 5);
        Due.be("the third moves up", x.packet(1, 6), 7);
        Due.be("nothing is delivered", x.results(1, 0), 2);
        Due.be("dropped", x.count(3), 1);
    }

    private static void dropToTheLast() {
        Doc.says("Promise 10", "Returns the number of packets that remain; NONE if there is no such packet.");
        SessionSimulator x = new SessionSimulator();
        Due.be("an empty network", x.drop(0), Due.NONE);
        x.connect(5);
        Due.fillNetwork(x);
        Due.be("24 of 24", x.drop(24), Due.NONE);
        Due.be("23 of 24", x.drop(23), 23);
        Due.be("23 of 23", x.drop(23), Due.NONE);
        Due.be("-1", x.drop(-1), Due.NONE);
        Due.be("the least int", x.drop(LEAST), Due.NONE);
        Due.be("the greatest int", x.drop(MOST), Due.NONE);
        for (int left = 22; left >= 0; left--) {
            Due.be("0", x.drop(0), left);
        }
        Due.be("empty again", x.drop(0), Due.NONE);
        Due.be("dropped", x.count(3), 24);
    }

    private static void promise11() {
        repeatAppendsACopy();
        repeatToTheFull();
    }

    private static void repeatAppendsACopy() {
        Doc.says("Promise 11", "Appends a copy of a packet to the network.");
        SessionSimulator x = Due.opened();
        x.configure(1, 3, 20);
        x.send(1, 4);
        Due.deliver(x, 0);
        x.send(0, 5);
        x.send(1, 6);
        x.repeat(1);
        for (int what = 0; what <= 8; what++) {
            Due.be("part " + what + " of the last", x.packet(3, what), x.packet(1, what));
        }
        x.alter(1, 9);
        Due.be("the copy is another packet", x.packet(3, 6), 5);
    }

    private static void repeatToTheFull() {
        Doc.says("Promise 11", "Returns the number of packets then; NONE if there is no such packet; FULL if there is"
            + " no room.");
        SessionSimulator x = new SessionSimulator();
        Due.be("an empty network", x.repeat(0), Due.NONE);
        x.connect(5);
        Due.be("-1", x.repeat(-1), Due.NONE);
        Due.be("1 of 1", x.repeat(1), Due.NONE);
        Due.be("the least int", x.repeat(LEAST), Due.NONE);
        Due.be("the greatest int", x.repeat(MOST), Due.NONE);
        for (int then = 2; then <= 24; then++) {
            Due.be("the last of " + (then - 1), x.repeat(then - 2), then);
        }
        Due.be("a 25th", x.repeat(23), Due.FULL);
        Due.be("24 of 24", x.repeat(24), Due.NONE);
        Due.be("repeated", x.count(4), 23);
    }

    private static void promise12() {
        alterMovesB();
        alterLeavesTheTag();
        alterDelta();
        alterPosition();
    }

    private static void alterMovesB() {
        Doc.says("Promise 12", "Alters a packet: its number b is increased by a given one.");
        SessionSimulator x = Due.opened();
        x.send(0, 999);
        x.send(0, -999);
        Due.be("beyond the greatest value", x.alter(0, 99), 1098);
        Due.be("and further", x.alter(0, 99), 1197);
        Due.be("below the least value", x.alter(1, -99), -1098);
        Due.be("by nothing", x.alter(1, 0), -1098);
        Due.be("b", x.packet(0, 6), 1197);
        Due.be("a", x.packet(1, 5), 1);
    }

    private static void alterLeavesTheTag() {
        Doc.says("Promise 12", "Its tag stays.");
        SessionSimulator x = Due.opened();
        x.send(0, 5);
        int tag = x.packet(0, 8);
        x.alter(0, 99);
        Due.be("tag", x.packet(0, 8), tag);
        Due.be("which is wrong then", x.foresee(0), 4);
        x.alter(0, -99);
        Due.be("and right again", x.foresee(0), 0);
    }

    private static void alterDelta() {
        Doc.says("Promise 12", "- `delta`: the number added to b, -99 to 99");
        SessionSimulator x = Due.opened();
        x.send(0, 5);
        Due.be("100", x.alter(0, 100), Due.BAD);
        Due.be("-100", x.alter(0, -100), Due.BAD);
        Due.be("the least int", x.alter(0, LEAST), Due.BAD);
        Due.be("the greatest int", x.alter(0, MOST), Due.BAD);
        Due.be("99", x.alter(0, 99), 104);
        Due.be("-99", x.alter(0, -99), 5);
    }

    private static void alterPosition() {
        Doc.says("Promise 12", "Returns the new b; NONE if there is no such packet; BAD_ARGUMENT if delta is out of"
            + " range.");
        SessionSimulator x = new SessionSimulator();
        Due.be("an empty network", x.alter(0, 1), Due.NONE);
        x.connect(5);
        Due.be("-1", x.alter(-1, 1), Due.NONE);
        Due.be("1 of 1", x.alter(1, 1), Due.NONE);
        Due.be("the least int", x.alter(LEAST, 1), Due.NONE);
        Due.be("the greatest int", x.alter(MOST, 1), Due.NONE);
        Due.fillNetwork(x);
        Due.be("24 of 24", x.alter(24, 1), Due.NONE);
        Due.be("23 of 24", x.alter(23, 1), 0);
    }

    private static void promise13() {
        tickCount();
        ticksOneByOne();
    }

    private static void tickCount() {
        Doc.says("Promise 13", "- `count`: the number of ticks, 1 to 50");
        SessionSimulator x = new SessionSimulator();
        Due.be("0", x.tick(0), Due.BAD);
        Due.be("51", x.tick(51), Due.BAD);
        Due.be("-1", x.tick(-1), Due.BAD);
        Due.be("the least int", x.tick(LEAST), Due.BAD);
        Due.be("the greatest int", x.tick(MOST), Due.BAD);
        Due.be("time", x.count(5), 0);
        Due.be("1", x.tick(1), 1);
        Due.be("50", x.tick(50), 51);
    }

    private static void ticksOneByOne() {
        Doc.says("Promise 13", "Returns the time; BAD_ARGUMENT if count is out of range.");
        SessionSimulator x = new SessionSimulator();
        x.connect(5);
        Due.be("10 ticks", x.tick(10), 10);
        Due.be("hellos at 0, 3, 6 and 9", x.count(0), 4);
        Due.be("2 more", x.tick(2), 12);
        Due.be("and at 12", x.count(0), 5);
    }
}
