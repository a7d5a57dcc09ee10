/** Promises 1 to 5 and 22: new objects, settings, handshakes, resuming, disconnecting, agreeing. */
public final class ConnectionTest {
    public static void main(String[] args) {
        promise1NewObject();
        promise2Configure();
        promise2SettingsHoldAtOnce();
        promise3Connect();
        promise3ConnectErrors();
        promise3ConnectFull();
        promise3StreamBeginsAnew();
        promise3Handshake();
        promise3HelloAgain();
        promise3HelloOfAnOldSession();
        promise4Resume();
        promise4ResumeErrors();
        promise4ResumeFull();
        promise4Refusal();
        promise4RefusalOfAClosedEndpoint();
        promise4ResumingWithAClosedEndpoint();
        promise4TicketAgeAndUse();
        promise4AlteredTickets();
        promise5Disconnect();
        promise5DisconnectLeavesClosed();
        promise5WaitingIsDiscarded();
        promise22Agree();
        Due.finish("ConnectionTest");
    }

    private static void promise1NewObject() {
        SessionSimulator x = new SessionSimulator();
        for (int what = 0; what <= 7; what++) {
            Due.be("new count(" + what + ")", x.count(what), 0);
        }
        for (int e = 0; e <= 1; e++) {
            for (int what = 0; what <= 10; what++) {
                Due.be("new endpoint(" + e + ", " + what + ")", x.endpoint(e, what), 0);
            }
            for (int result = 0; result <= 8; result++) {
                Due.be("new results(" + e + ", " + result + ")", x.results(e, result), 0);
            }
            Due.be("new window", x.window(e, 0), -1);
            Due.be("new previous window", x.window(e, 1), Due.NONE);
            Due.be("new taken", x.taken(e, 0), Due.NONE);
            Due.be("new kept", x.kept(e, 0, 0), Due.NONE);
        }
        Due.be("new ticket", x.endpoint(0, 11), -1);
        Due.be("new issued", x.endpoint(1, 11), 0);
        Due.be("new event", x.event(0, 0), Due.NONE);
        Due.be("new packet", x.packet(0, 0), Due.NONE);
        Due.be("new agree", x.agree(), 0);
        Due.be("new restore", x.restore(), Due.NONE);
        Due.be("new settings", x.configure(6, 3, 20), 6320);
    }

    private static void promise2Configure() {
        SessionSimulator x = new SessionSimulator();
        Due.be("configure least", x.configure(1, 1, 0), 6320);
        Due.be("configure most", x.configure(20, 9, 50), 1100);
        Due.be("configure 0 k", x.configure(0, 1, 1), Due.BAD);
        Due.be("configure 21 k", x.configure(21, 1, 1), Due.BAD);
        Due.be("configure 0 t", x.configure(1, 0, 1), Due.BAD);
        Due.be("configure 10 t", x.configure(1, 10, 1), Due.BAD);
        Due.be("configure -1 l", x.configure(1, 1, -1), Due.BAD);
        Due.be("configure 51 l", x.configure(1, 1, 51), Due.BAD);
        Due.be("configure far", x.configure(Integer.MIN_VALUE, Integer.MAX_VALUE, 1), Due.BAD);
        Due.be("configure unchanged by errors", x.configure(7, 2, 3), 20950);
        Due.be("configure again", x.configure(7, 2, 3), 7203);
    }

    private static void promise2SettingsHoldAtOnce() {
        SessionSimulator x = Due.opened();
        Due.be("sequence before", x.endpoint(0, 3), 1);
        x.configure(1, 1, 20);
        x.send(0, 5);
        Due.packet(x, 0, 0, 4, 1, 1, 0, 0, 5, 0);
        x.tick(1);
        Due.be("timeout 1 resends after a tick", x.count(0), 2);
        x.configure(20, 9, 20);
        x.tick(8);
        Due.be("timeout 9 does not resend after 8", x.count(0), 2);
        x.tick(1);
        Due.be("timeout 9 resends after 9", x.count(0), 3);
        Due.packet(x, 2, 0, 4, 1, 2, 1, 0, 5);
    }

    private static void promise3Connect() {
        SessionSimulator x = new SessionSimulator();
        Due.be("connect(9999)", x.connect(9999), 1);
        Due.packet(x, 0, 0, 0, 1, 0, 0, 9999, -1, 0, 0);
        Due.be("state", x.endpoint(0, 0), 1);
        Due.be("session", x.endpoint(0, 1), 1);
        Due.be("no base yet", x.endpoint(0, 9), 0);
        Due.be("session number", x.count(7), 1);
        Due.be("sent", x.count(1), 1);
        Due.be("in the network", x.count(0), 1);
        Due.event(x, 1, 3, 0, 1);
        Due.event(x, 0, 0, 0, 0);
        Due.be("two events", x.event(2, 0), Due.NONE);
        Due.be("endpoint 1 knows nothing", x.endpoint(1, 1), 0);
    }

    private static void promise3ConnectErrors() {
        SessionSimulator x = new SessionSimulator();
        Due.be("connect(-1)", x.connect(-1), Due.BAD);
        Due.be("connect(10000)", x.connect(10000), Due.BAD);
        Due.be("nothing happened", x.count(7) + x.count(0) + x.endpoint(0, 0), 0);
        Due.be("connect(0)", x.connect(0), 1);
        Due.be("connect while waiting", x.connect(0), Due.STATE);
        Due.be("bad argument comes first", x.connect(-1), Due.BAD);
        Due.fillNetwork(x);
        Due.be("state comes before full", x.connect(0), Due.STATE);
        Due.be("session number stays", x.count(7), 1);
        x = Due.opened();
        Due.be("connect while open", x.connect(0), Due.STATE);
        x = Due.closed();
        Due.be("connect when closed", x.connect(0), 2);
        Due.be("waits again", x.endpoint(0, 0), 1);
    }

    /** Endpoint 0 is idle by a refusal, and the network is full. */
    private static SessionSimulator refusedAndFull() {
        SessionSimulator x = Due.opened();
        x.disconnect();
        x.connect(7);
        Due.be("a ticket that is none", x.alter(0, 50), 49);
        x.repeat(0);
        Due.be("refused", x.deliver(0), 8);
        Due.deliver(x, 1);
        Due.be("idle by refusal", x.endpoint(0, 0), 0);
        Due.fillNetwork(x);
        return x;
    }

    private static void promise3ConnectFull() {
        SessionSimulator x = refusedAndFull();
        int sent = x.count(1);
        x.send(0, 3);
        Due.be("connect when full", x.connect(1), Due.FULL);
        Due.be("bad argument before full", x.connect(-1), Due.BAD);
        Due.be("state stays", x.endpoint(0, 0), 0);
        Due.be("session number stays", x.count(7), 2);
        Due.be("stream stays", x.endpoint(0, 5), 1);
        Due.be("nothing sent", x.count(1), sent);
        x.drop(23);
        Due.be("connect with room", x.connect(1), 3);
        Due.packet(x, 23, 0, 0, 3, 0, 0, 1, -1);
    }

    private static void promise3StreamBeginsAnew() {
        SessionSimulator x = Due.opened();
        x.send(1, 8);
        x.send(0, 9);
        x.close(0);
        Due.deliver(x, 0);
        Due.be("taken", x.taken(0, 0), 8);
        Due.be("expects 1", x.endpoint(0, 6), 1);
        x.disconnect();
        Due.be("idle", x.endpoint(0, 0), 0);
        x.connect(1);
        Due.be("no messages", x.endpoint(0, 5), 0);
        Due.be("expects 0", x.endpoint(0, 6), 0);
        Due.be("has taken none", x.endpoint(0, 8), 0);
        Due.be("taken none", x.taken(0, 0), Due.NONE);
        Due.be("keeps its ticket", x.endpoint(0, 11), 0);
        Due.be("no close of its own, numbers from 0", x.send(0, 1), 0);
        Due.be("endpoint 1 keeps its messages", x.endpoint(1, 5), 1);
        Due.deliver(x, 0);
        Due.be("endpoint 1 has no messages then", x.endpoint(1, 5), 0);
        Due.be("endpoint 1 expects 0", x.endpoint(1, 6), 0);
    }

    private static void promise3Handshake() {
        SessionSimulator x = new SessionSimulator();
        x.tick(4);
        x.connect(17);
        Due.deliver(x, 0);
        int nonce = Due.mix(17, Due.mix(1, 4));
        int base = Due.base(17, nonce, 1);
        Due.packet(x, 0, 1, 1, 1, 0, 0, nonce, 0, 0, 0);
        Due.be("replied", x.endpoint(1, 0), 2);
        Due.be("session of 1", x.endpoint(1, 1), 1);
        Due.be("base of 1", x.endpoint(1, 9), base);
        Due.be("no base of 0 yet", x.endpoint(0, 9), 0);
        Due.event(x, 2, 1, 0, 0);
        Due.event(x, 1, 3, 1, 2);
        Due.event(x, 0, 0, 1, 1);
        Due.deliver(x, 0);
        Due.packet(x, 0, 0, 3, 1, 0, 0, 0, 0, 0, Due.tag(base, 0, 3, 0, 0, 0, 0, 0));
        Due.be("open", x.endpoint(0, 0), 3);
        Due.be("base of 0", x.endpoint(0, 9), base);
        Due.event(x, 2, 1, 1, 0);
        Due.event(x, 1, 3, 0, 3);
        Due.event(x, 0, 0, 0, 3);
        Due.deliver(x, 0);
        Due.packet(x, 0, 1, 6, 1, 0, 0, 0, 0, 0, Due.tag(base, 1, 6, 0, 0, 0, 0, 0));
        Due.be("both are open", x.agree(), 1);
        Due.be("issued", x.endpoint(1, 11), 1);
        Due.event(x, 2, 1, 3, 0);
        Due.event(x, 1, 3, 1, 3);
        Due.event(x, 0, 0, 1, 6);
        Due.be("no ticket yet", x.endpoint(0, 11), -1);
        Due.deliver(x, 0);
        Due.be("the ticket", x.endpoint(0, 11), 0);
        Due.event(x, 0, 1, 6, 0);
    }

    private static void promise3HelloAgain() {
        SessionSimulator x = new SessionSimulator();
        x.connect(5);
        x.repeat(0);
        Due.deliver(x, 0);
        int first = x.endpoint(1, 9);
        x.send(1, 3);
        x.tick(1);
        Due.deliver(x, 0);
        Due.be("the base changes with the time", x.endpoint(1, 9) == first ? 1 : 0, 0);
        Due.be("the stream begins anew", x.endpoint(1, 5), 0);
        Due.event(x, 1, 1, 0, 0);
        Due.event(x, 0, 0, 1, 1);
        Due.deliver(x, 0);
        Due.be("the first reply is accepted", x.endpoint(0, 9), first);
        Due.be("the second is not", x.deliver(0), 1);
        Due.be("the keys differ", x.deliver(0), 4);
        Due.be("endpoint 1 has replied still", x.endpoint(1, 0), 2);
    }

    private static void promise3HelloOfAnOldSession() {
        SessionSimulator x = new SessionSimulator();
        x.connect(5);
        x.repeat(0);
        Due.deliver(x, 0, 1, 1, 1);
        Due.be("open does not take a hello", x.foresee(0), 1);
        x.close(0);
        Due.deliver(x, 1, 1);
        x.close(1);
        Due.deliver(x, 1, 1);
        Due.be("closed", x.endpoint(1, 0), 4);
        x.connect(6);
        Due.deliver(x, 0);
        Due.be("the session of the packet", x.endpoint(1, 1), 1);
        Due.packet(x, 1, 1, 1, 1);
        Due.be("its reply is of another session", x.deliver(1), 2);
        Due.deliver(x, 0);
        Due.be("the new session", x.endpoint(1, 1), 2);
    }

    private static void promise4Resume() {
        SessionSimulator x = Due.opened();
        x.send(0, 21);
        x.send(0, 22);
        x.send(1, 31);
        Due.deliver(x, 0);
        Due.be("endpoint 1 expects 1", x.endpoint(1, 6), 1);
        x.disconnect();
        x.tick(20);
        Due.be("kept are sent", x.kept(0, 0, 3), 0);
        Due.be("resume(3)", x.resume(3), 2);
        Due.packet(x, 0, 0, 0, 2, 0, 0, 3, 0, 0, 0);
        Due.be("the ticket is gone", x.endpoint(0, 11), -1);
        Due.be("waits", x.endpoint(0, 0), 1);
        Due.be("keeps its messages", x.endpoint(0, 5), 2);
        Due.be("which are sent still", x.kept(0, 0, 3), 0);
        Due.deliver(x, 0);
        Due.be("endpoint 1 keeps its stream", x.endpoint(1, 6), 1);
        Due.be("endpoint 1 has taken one", x.taken(1, 0), 21);
        Due.be("its message is kept, not sent", x.kept(1, 0, 3), -1);
        Due.deliver(x, 0);
        Due.be("open", x.endpoint(0, 0), 3);
        Due.packet(x, 0, 0, 3, 2, 0, 0, 0, 0, 0);
        Due.packet(x, 1, 0, 4, 2, 0, 1, 0, 21, 0);
        Due.packet(x, 2, 0, 4, 2, 0, 2, 1, 22, 0);
        Due.be("sent at this time", x.kept(0, 1, 3), 20);
        Due.deliver(x, 0);
        Due.packet(x, 2, 1, 6, 2, 0, 0, 1, 0, 1);
        Due.packet(x, 3, 1, 4, 2, 0, 1, 0, 31, 1);
        Due.be("agree", x.agree(), 1);
        Due.deliver(x, 0, 0);
        Due.be("21 is taken once", x.taken(1, 1), 22);
        Due.be("two in all", x.endpoint(1, 8), 2);
    }

    private static void promise4ResumeErrors() {
        SessionSimulator x = new SessionSimulator();
        Due.be("resume(-1)", x.resume(-1), Due.BAD);
        Due.be("resume(10000)", x.resume(10000), Due.BAD);
        Due.be("no ticket", x.resume(0), Due.NONE);
        x.connect(5);
        Due.be("waiting, without a ticket", x.resume(0), Due.STATE);
        Due.deliver(x, 0, 0, 0, 0);
        Due.be("open", x.resume(9999), Due.STATE);
        Due.be("bad argument before state", x.resume(10000), Due.BAD);
        Due.be("the ticket is there", x.endpoint(0, 11), 0);
        x = Due.closed();
        Due.be("closed", x.resume(1), Due.STATE);
        Due.be("session number stays", x.count(7), 1);
    }

    private static void promise4ResumeFull() {
        SessionSimulator x = refusedAndFull();
        Due.be("has its ticket", x.endpoint(0, 11), 0);
        Due.be("resume when full", x.resume(1), Due.FULL);
        Due.be("still has its ticket", x.endpoint(0, 11), 0);
        Due.be("session number stays", x.count(7), 2);
        x.drop(0);
        Due.be("resume with room", x.resume(1), 3);
        Due.fillNetwork(x);
        x = new SessionSimulator();
        x.connect(5);
        x.alter(0, 50);
        x.repeat(0);
        x.deliver(0);
        x.deliver(1);
        Due.fillNetwork(x);
        Due.be("none before full", x.resume(1), Due.NONE);
    }

    private static void promise4Refusal() {
        SessionSimulator x = Due.opened();
        x.tick(21);
        x.disconnect();
        x.send(0, 4);
        x.resume(2);
        x.repeat(0);
        Due.be("too old", x.deliver(0), 8);
        Due.be("idle as before", x.endpoint(1, 0), 0);
        Due.be("session as before", x.endpoint(1, 1), 1);
        Due.packet(x, 1, 1, 2, 2, 0, 0, 0, 0, 0, 0);
        Due.event(x, 1, 1, 0, 8);
        Due.event(x, 0, 0, 1, 2);
        Due.deliver(x, 1);
        Due.event(x, 1, 1, 2, 0);
        Due.event(x, 0, 3, 0, 0);
        Due.be("idle", x.endpoint(0, 0), 0);
        Due.be("the message is kept", x.endpoint(0, 5), 1);
        Due.be("the ticket is lost", x.resume(2), Due.NONE);
        x.connect(1);
        Due.be("an old hello is refused", x.deliver(0), 8);
        Due.packet(x, 1, 1, 2, 2);
        Due.be("a refusal of another session", x.deliver(1), 2);
        Due.be("waits still", x.endpoint(0, 0), 1);
    }

    /** Endpoint 1 is closed; endpoint 0, which has not heard of it, is idle and has ticket 0. */
    private static SessionSimulator onlyEndpoint1Closed() {
        SessionSimulator x = Due.opened();
        x.close(1);
        Due.deliver(x, 0, 0);
        x.close(0);
        Due.deliver(x, 0);
        Due.be("endpoint 1 is closed", x.endpoint(1, 0), 4);
        Due.be("its acknowledgement is lost", x.disconnect(), 1);
        Due.be("endpoint 0 is idle", x.endpoint(0, 0), 0);
        Due.be("endpoint 1 is closed still", x.endpoint(1, 0), 4);
        return x;
    }

    private static void promise4RefusalOfAClosedEndpoint() {
        SessionSimulator x = onlyEndpoint1Closed();
        x.tick(21);
        Due.be("resume", x.resume(2), 2);
        Due.be("too old", x.deliver(0), 8);
        Due.be("closed as before", x.endpoint(1, 0), 4);
        Due.packet(x, 0, 1, 2, 2, 0, 0, 0, 0, 0, 0);
        Due.deliver(x, 0);
        Due.be("idle", x.endpoint(0, 0), 0);
    }

    private static void promise4ResumingWithAClosedEndpoint() {
        SessionSimulator x = onlyEndpoint1Closed();
        Due.be("resume", x.resume(2), 2);
        Due.deliver(x, 0);
        Due.be("endpoint 1 has replied", x.endpoint(1, 0), 2);
        Due.be("it has its close still", x.send(1, 3), Due.STATE);
        Due.deliver(x, 0);
        Due.be("endpoint 0 is open", x.endpoint(0, 0), 3);
        Due.be("a finish and the close again", x.count(0), 2);
        Due.deliver(x, 0);
        Due.event(x, 0, 3, 1, 4);
        Due.event(x, 1, 0, 1, 6);
        Due.event(x, 2, 3, 1, 3);
        Due.event(x, 3, 1, 3, 0);
        Due.be("the ticket closes endpoint 0", x.deliver(1), 0);
        Due.event(x, 0, 3, 0, 4);
        Due.event(x, 1, 1, 6, 0);
        Due.be("the close again", x.deliver(0), 0);
        Due.packet(x, 0, 1, 5, 2, 0, 1, 0, 0, 1);
    }

    private static void promise4TicketAgeAndUse() {
        SessionSimulator x = new SessionSimulator();
        x.tick(3);
        x.connect(5);
        Due.deliver(x, 0, 0, 0, 0);
        x.disconnect();
        x.tick(20);
        x.resume(1);
        Due.be("as old as the life", x.foresee(0), 0);
        x.configure(6, 3, 19);
        Due.be("older than the life", x.foresee(0), 8);
        x.configure(6, 3, 20);
        x.repeat(0);
        Due.deliver(x, 0);
        Due.be("used", x.foresee(0), 8);
        x.disconnect();
        Due.be("no ticket for endpoint 0 any more", x.resume(1), Due.NONE);
    }

    private static void promise4AlteredTickets() {
        SessionSimulator x = Due.opened();
        x.send(0, 1);
        Due.deliver(x, 0, 0);
        x.disconnect();
        x.resume(1);
        x.alter(0, 1);
        Due.be("ticket 1 is not issued", x.foresee(0), 8);
        x.alter(0, -3);
        Due.be("ticket -2 is none", x.foresee(0), 8);
        x.alter(0, 1);
        Due.be("-1 is no ticket", x.foresee(0), 0);
        Due.deliver(x, 0);
        Due.be("so the stream begins anew", x.endpoint(1, 6), 0);
        x = Due.opened();
        x.send(0, 1);
        Due.deliver(x, 0, 0);
        x.disconnect();
        x.connect(1);
        x.alter(0, 1);
        Due.deliver(x, 0);
        Due.be("with ticket 0 it does not", x.endpoint(1, 6), 1);
    }

    private static void promise5Disconnect() {
        SessionSimulator x = Due.opened();
        x.send(0, 1);
        x.send(1, 2);
        x.tick(1);
        int window = x.window(0, 0);
        int base = x.endpoint(0, 9);
        Due.be("disconnect", x.disconnect(), 2);
        Due.be("empty", x.count(0), 0);
        Due.be("dropped", x.count(3), 2);
        Due.be("idle 0", x.endpoint(0, 0), 0);
        Due.be("idle 1", x.endpoint(1, 0), 0);
        Due.event(x, 1, 3, 0, 0);
        Due.event(x, 0, 3, 1, 0);
        Due.event(x, 2, 0, 1, 4);
        Due.be("message is kept", x.kept(0, 0, 1), 1);
        Due.be("and was sent", x.kept(0, 0, 3), 0);
        Due.be("sequence stays", x.endpoint(0, 3), 2);
        Due.be("window stays", x.window(0, 0), window);
        Due.be("base stays", x.endpoint(0, 9), base);
        Due.be("session stays", x.endpoint(0, 1), 1);
        Due.be("ticket stays", x.endpoint(0, 11), 0);
        Due.be("disconnect again", x.disconnect(), 0);
        Due.event(x, 0, 3, 1, 0);
        Due.event(x, 1, 3, 0, 0);
        x.tick(5);
        Due.be("idle endpoints send nothing", x.count(0), 0);
        x.connect(1);
        Due.deliver(x, 0);
        x.disconnect();
        Due.be("idle after waiting", x.endpoint(0, 0), 0);
        Due.be("idle after replying", x.endpoint(1, 0), 0);
    }

    private static void promise5DisconnectLeavesClosed() {
        SessionSimulator x = Due.closed();
        Due.be("disconnect", x.disconnect(), 0);
        Due.be("closed 0", x.endpoint(0, 0), 4);
        Due.be("closed 1", x.endpoint(1, 0), 4);
        Due.event(x, 0, 3, 1, 4);
    }

    private static void promise5WaitingIsDiscarded() {
        SessionSimulator x = Due.opened();
        x.send(0, 1);
        x.send(0, 2);
        x.send(1, 3);
        x.send(1, 4);
        Due.deliver(x, 1, 2);
        Due.be("one waits in 1", x.endpoint(1, 7), 1);
        Due.be("one waits in 0", x.endpoint(0, 7), 1);
        x.disconnect();
        Due.be("none waits in 1", x.endpoint(1, 7), 0);
        Due.be("none waits in 0", x.endpoint(0, 7), 0);
    }

    private static void promise22Agree() {
        SessionSimulator x = new SessionSimulator();
        x.connect(5);
        Due.deliver(x, 0, 0);
        Due.be("only 0 is open", x.agree(), 0);
        Due.deliver(x, 0);
        Due.be("both are open", x.agree(), 1);
        Due.deliver(x, 0);
        x.close(0);
        x.close(1);
        Due.deliver(x, 0, 0);
        Due.be("both open before the acknowledgements", x.agree(), 1);
        Due.deliver(x, 0);
        Due.be("one is closed", x.agree(), 0);
        x.disconnect();
        Due.be("none after disconnecting", x.agree(), 0);
        x = Due.opened();
        x.disconnect();
        Due.be("idle with the same base", x.agree(), 0);
    }
}
