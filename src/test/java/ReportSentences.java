import java.util.List;

/** Promises 14 to 26: the methods that tell something, the text, and the snapshot. */
final class ReportSentences {
    private static final int LEAST = Integer.MIN_VALUE;
    private static final int MOST = Integer.MAX_VALUE;

    private ReportSentences() {
    }

    static void all() {
        packetParts();
        packetWithoutPacket();
        endpointParts();
        endpointWhat();
        endpointWithout();
        windowKinds();
        windowNumbers();
        windowEmptyAndFull();
        windowArguments();
        takenIsNoClose();
        takenIndex();
        takenWithout();
        keptIndex();
        keptParts();
        keptWithout();
        resultsOfEndpoints();
        resultsRange();
        countParts();
        countRange();
        eventIndex();
        eventParts();
        eventWithout();
        agreeOnlyIfAllIsSame();
        agreeOnlyInOneSession();
        agreeOnlyWithOneBase();
        agreeAnswers();
        appendCode();
        appendCount();
        appendToTheFull();
        scriptEndsBeforeErrors();
        scriptLeavesNoText();
        scriptAnswers();
        saveHoldsEverything();
        saveReplaces();
        saveAnswers();
        restoreIsKept();
        restoreLeavesTheText();
        restoreWithoutASnapshot();
    }

    private static void packetParts() {
        Doc.says("Promise 14", "- `what`: 0 for the sender, 1 for the kind, 2 for the session, 3 for the epoch, 4 for"
            + " the sequence number, 5 for a, 6 for b, 7 for the acknowledgement, 8 for the tag");
        SessionSimulator x = Due.opened();
        x.disconnect();
        x.resume(4);
        Due.deliver(x, 0, 0, 0, 0);
        int base = x.endpoint(1, 9);
        x.send(0, 1);
        x.send(0, 2);
        x.send(0, 3);
        Due.deliver(x, 0, 0, 0);
        x.configure(3, 3, 20);
        x.send(1, 6);
        x.send(1, 7);
        Due.packet(x, 4, 1, 4, 2, 1, 1, 1, 7, 3, Due.tag(base, 1, 4, 1, 1, 1, 7, 3));
    }

    private static void packetWithoutPacket() {
        Doc.says("Promise 14", "Returns the part; NONE if there is no such packet; BAD_ARGUMENT if what is not from 0"
            + " to 8.");
        SessionSimulator x = new SessionSimulator();
        Due.be("an empty network", x.packet(0, 0), Due.NONE);
        x.connect(5);
        Due.be("(0, 0)", x.packet(0, 0), 0);
        Due.be("(0, 8)", x.packet(0, 8), 0);
        Due.be("(0, 9)", x.packet(0, 9), Due.BAD);
        Due.be("(0, -1)", x.packet(0, -1), Due.BAD);
        Due.be("(0, the least int)", x.packet(0, LEAST), Due.BAD);
        Due.be("(0, the greatest int)", x.packet(0, MOST), Due.BAD);
        Due.be("(1, 0)", x.packet(1, 0), Due.NONE);
        Due.be("(-1, 0)", x.packet(-1, 0), Due.NONE);
        Due.be("(the least int, 0)", x.packet(LEAST, 0), Due.NONE);
        Due.be("(the greatest int, 0)", x.packet(MOST, 0), Due.NONE);
        Due.fillNetwork(x);
        Due.be("(23, 5)", x.packet(23, 5), 5);
        Due.be("(24, 5)", x.packet(24, 5), Due.NONE);
    }

    private static void endpointParts() {
        Doc.says("Promise 15", "- `what`: 0 for its state, 1 for its session, 0 if it had none, 2 for its sending"
            + " epoch, 3 for its next sequence number, 4 for its receiving epoch, 5 for the number of messages"
            + " that it keeps, 6 for the number of the message that it expects next, 7 for how many wait, 8 for"
            + " how many it has taken, 9 for its base, which it gets with a hello or a reply, 0 before the first"
            + " one, 10 for 1 if it has a previous window, otherwise 0, 11 for its ticket, -1 if it has none; for"
            + " endpoint 1, how many it has issued");
        SessionSimulator x = new SessionSimulator();
        parts(x, 0, 0, 0, 0, 0, 0, 0, 0, 0, 0, 0, 0, -1);
        parts(x, 1, 0, 0, 0, 0, 0, 0, 0, 0, 0, 0, 0, 0);
        x.connect(0);
        parts(x, 0, 1, 1, 0, 0, 0, 0, 0, 0, 0, 0, 0, -1);
        parts(x, 1, 0, 0, 0, 0, 0, 0, 0, 0, 0, 0, 0, 0);
        Due.deliver(x, 0);
        parts(x, 0, 1, 1, 0, 0, 0, 0, 0, 0, 0, 0, 0, -1);
        parts(x, 1, 2, 1, 0, 0, 0, 0, 0, 0, 0, 965, 0, 0);
        Due.deliver(x, 0, 0);
        parts(x, 0, 3, 1, 0, 1, 0, 0, 0, 0, 0, 965, 0, -1);
        parts(x, 1, 3, 1, 0, 1, 0, 0, 0, 0, 0, 965, 0, 1);
        Due.deliver(x, 0);
        x.configure(1, 3, 20);
        x.send(0, 5);
        x.close(0);
        x.send(1, 6);
        Due.deliver(x, 1);
        parts(x, 0, 3, 1, 2, 1, 0, 2, 0, 0, 0, 965, 0, 0);
        parts(x, 1, 3, 1, 2, 1, 2, 1, 0, 1, 0, 965, 0, 1);
        Due.deliver(x, 1, 1);
        parts(x, 0, 3, 1, 3, 1, 2, 2, 1, 0, 1, 965, 1, 0);
    }

    private static void parts(SessionSimulator x, int e, int... want) {
        for (int what = 0; what < want.length; what++) {
            Due.be("endpoint(" + e + ", " + what + ")", x.endpoint(e, what), want[what]);
        }
    }

    private static void endpointWhat() {
        Doc.says("Promise 15", "BAD_ARGUMENT if there is no such endpoint or what is not from 0 to 11.");
        SessionSimulator x = new SessionSimulator();
        for (int e = 0; e <= 1; e++) {
            Due.be("0", x.endpoint(e, 0), 0);
            Due.be("11", x.endpoint(e, 11), e - 1);
            Due.be("12", x.endpoint(e, 12), Due.BAD);
            Due.be("-1", x.endpoint(e, -1), Due.BAD);
            Due.be("the least int", x.endpoint(e, LEAST), Due.BAD);
            Due.be("the greatest int", x.endpoint(e, MOST), Due.BAD);
        }
    }

    private static void endpointWithout() {
        Doc.says("Promise 15", "Returns the number; BAD_ARGUMENT if there is no such endpoint");
        SessionSimulator x = new SessionSimulator();
        for (int e : new int[] {-1, 2, LEAST, MOST}) {
            for (int what = 0; what <= 11; what++) {
                Due.be("endpoint(" + e + ", " + what + ")", x.endpoint(e, what), Due.BAD);
            }
        }
    }

    private static void windowKinds() {
        Doc.says("Promise 16", "- `previous`: 0 for that of the receiving epoch, 1 for the previous one");
        SessionSimulator x = Due.opened();
        x.send(0, 5);
        x.configure(1, 3, 20);
        x.send(0, 6);
        Due.deliver(x, 0, 0);
        Due.be("window(1, 0)", x.window(1, 0), 1);
        Due.be("window(1, 1)", x.window(1, 1), 256 + 3);
    }

    private static void windowNumbers() {
        Doc.says("Promise 16", "Returns the highest accepted sequence number times 256, plus the set of accepted"
            + " sequence numbers, bit i for the highest one minus i");
        SessionSimulator x = Due.opened();
        x.configure(20, 1, 50);
        x.send(0, 5);
        x.tick(15);
        Due.be("number 0", x.window(1, 0), 1);
        Due.deliver(x, 6);
        Due.be("7 and 0, at bit 7", x.window(1, 0), 7 * 256 + 128 + 1);
        Due.deliver(x, 0);
        Due.be("and 1, at bit 6", x.window(1, 0), 7 * 256 + 128 + 64 + 1);
        Due.deliver(x, 5);
        Due.be("8, 7 and 1, but 0 is too far", x.window(1, 0), 8 * 256 + 128 + 2 + 1);
        Due.deliver(x, 11);
        Due.be("15 and 8, at bit 7", x.window(1, 0), 15 * 256 + 128 + 1);
    }

    private static void windowEmptyAndFull() {
        Doc.says("Promise 16", "-1 if it is empty");
        SessionSimulator x = new SessionSimulator();
        Due.be("empty", x.window(0, 0), -1);
        x.configure(20, 1, 50);
        x.connect(5);
        Due.deliver(x, 0, 0);
        Due.be("empty when it has replied", x.window(1, 0), -1);
        Due.deliver(x, 0, 0);
        x.send(0, 5);
        x.tick(18);
        for (int i = 0; i < 7; i++) {
            Due.deliver(x, 0);
        }
        Due.be("0 to 7, all 8 bits", x.window(1, 0), 7 * 256 + 255);
        for (int i = 0; i < 12; i++) {
            Due.deliver(x, 0);
        }
        Due.be("12 to 19, all 8 bits", x.window(1, 0), 19 * 256 + 255);
        x = new SessionSimulator();
        x.configure(1, 3, 20);
        x.connect(5);
        x.send(0, 5);
        Due.deliver(x, 0, 0, 1);
        Due.be("an empty previous one", x.window(1, 1), -1);
    }

    private static void windowArguments() {
        Doc.says("Promise 16", "BAD_ARGUMENT if there is no such endpoint or previous is not 0 or 1; NONE if there is"
            + " no previous window.");
        SessionSimulator x = Due.opened();
        for (int wrong : new int[] {-1, 2, LEAST, MOST}) {
            Due.be("window(" + wrong + ", 0)", x.window(wrong, 0), Due.BAD);
            Due.be("window(" + wrong + ", 1)", x.window(wrong, 1), Due.BAD);
            Due.be("window(0, " + wrong + ")", x.window(0, wrong), Due.BAD);
            Due.be("window(1, " + wrong + ")", x.window(1, wrong), Due.BAD);
        }
        Due.be("window(0, 1)", x.window(0, 1), Due.NONE);
        Due.be("window(1, 1)", x.window(1, 1), Due.NONE);
    }

    private static void takenIsNoClose() {
        Doc.says("Promise 17", "Returns a message that an endpoint has taken; a close is none of these.");
        SessionSimulator x = Due.opened();
        x.send(0, 5);
        x.close(0);
        Due.deliver(x, 0, 0);
        Due.be("taken(1, 0)", x.taken(1, 0), 5);
        Due.be("taken(1, 1)", x.taken(1, 1), Due.NONE);
        Due.be("expected", x.endpoint(1, 6), 2);
    }

    private static void takenIndex() {
        Doc.says("Promise 17", "- `index`: the index, 0 for the first message of the stream");
        SessionSimulator x = Due.opened();
        x.send(0, -999);
        x.send(0, 999);
        Due.deliver(x, 0, 0, 0, 0);
        x.disconnect();
        x.resume(5);
        Due.deliver(x, 0, 0, 0, 0);
        x.send(0, 7);
        Due.deliver(x, 0);
        Due.be("taken(1, 0)", x.taken(1, 0), -999);
        Due.be("taken(1, 1)", x.taken(1, 1), 999);
        Due.be("taken(1, 2) after resuming", x.taken(1, 2), 7);
        x.disconnect();
        x.connect(5);
        Due.deliver(x, 0, 0, 0, 0);
        x.send(0, 8);
        Due.deliver(x, 0);
        Due.be("taken(1, 0) of the next stream", x.taken(1, 0), 8);
        Due.be("taken(1, 1)", x.taken(1, 1), Due.NONE);
    }

    private static void takenWithout() {
        Doc.says("Promise 17", "Returns the value; NONE if there is no such endpoint or message.");
        SessionSimulator x = Due.opened();
        x.send(0, 5);
        Due.be("before it is taken", x.taken(1, 0), Due.NONE);
        Due.deliver(x, 0);
        Due.be("taken(1, 0)", x.taken(1, 0), 5);
        Due.be("the sender", x.taken(0, 0), Due.NONE);
        for (int wrong : new int[] {-1, 2, LEAST, MOST}) {
            Due.be("taken(" + wrong + ", 0)", x.taken(wrong, 0), Due.NONE);
            Due.be("taken(1, " + wrong + ")", x.taken(1, wrong), Due.NONE);
        }
        Due.be("taken(1, 1)", x.taken(1, 1), Due.NONE);
        Due.be("taken(1, 512)", x.taken(1, 512), Due.NONE);
    }

    private static void keptIndex() {
        Doc.says("Promise 18", "- `index`: the index, 0 for the lowest number");
        SessionSimulator x = Due.opened();
        for (int i = 0; i < 16; i++) {
            x.send(0, 100 + i);
        }
        Due.be("the lowest", x.kept(0, 0, 0), 0);
        Due.be("the highest", x.kept(0, 15, 0), 15);
        Due.deliver(x, 0, 2);
        Due.be("the lowest after an acknowledgement", x.kept(0, 0, 0), 1);
        Due.be("its value", x.kept(0, 0, 1), 101);
        Due.be("index 15 is free", x.kept(0, 15, 0), Due.NONE);
        x.send(0, 116);
        Due.be("the highest", x.kept(0, 15, 0), 16);
        Due.be("its value", x.kept(0, 15, 1), 116);
    }

    private static void keptParts() {
        Doc.says("Promise 18", "- `what`: 0 for its number, 1 for its value, 0 for a close, 2 for 1 if it is a close,"
            + " otherwise 0, 3 for the time at which it was sent, -1 if it is not sent");
        SessionSimulator x = Due.opened();
        x.send(1, 7);
        x.tick(2);
        x.send(1, -7);
        x.send(1, 8);
        x.send(1, 9);
        x.close(1);
        int[][] want = {{0, 7, 0, 0}, {1, -7, 0, 2}, {2, 8, 0, 2}, {3, 9, 0, -1}, {4, 0, 1, -1}};
        for (int index = 0; index < want.length; index++) {
            for (int what = 0; what <= 3; what++) {
                Due.be("kept(1, " + index + ", " + what + ")", x.kept(1, index, what), want[index][what]);
            }
        }
    }

    private static void keptWithout() {
        Doc.says("Promise 18", "Returns the part; NONE if there is no such endpoint or message; BAD_ARGUMENT if what"
            + " is not from 0 to 3.");
        SessionSimulator x = new SessionSimulator();
        Due.be("nothing is kept", x.kept(0, 0, 0), Due.NONE);
        Due.be("nor by 1", x.kept(1, 0, 0), Due.NONE);
        x.send(0, 5);
        x.send(1, 6);
        Due.be("kept(0, 0, 0)", x.kept(0, 0, 0), 0);
        Due.be("kept(0, 0, 3)", x.kept(0, 0, 3), -1);
        Due.be("kept(0, 0, 4)", x.kept(0, 0, 4), Due.BAD);
        Due.be("kept(0, 1, 0)", x.kept(0, 1, 0), Due.NONE);
        Due.be("kept(0, 16, 0)", x.kept(0, 16, 0), Due.NONE);
        Due.be("kept(1, 1, 0)", x.kept(1, 1, 0), Due.NONE);
        for (int wrong : new int[] {-1, LEAST, MOST}) {
            Due.be("kept(" + wrong + ", 0, 0)", x.kept(wrong, 0, 0), Due.NONE);
            Due.be("kept(0, " + wrong + ", 0)", x.kept(0, wrong, 0), Due.NONE);
            Due.be("kept(0, 0, " + wrong + ")", x.kept(0, 0, wrong), Due.BAD);
        }
        Due.be("kept(2, 0, 0)", x.kept(2, 0, 0), Due.NONE);
    }

    private static void resultsOfEndpoints() {
        Doc.says("Promise 19", "Returns how often delivering to an endpoint had a result.");
        SessionSimulator x = Due.opened();
        Due.be("accepted by 0", x.results(0, 0), 2);
        Due.be("accepted by 1", x.results(1, 0), 2);
        x.send(0, 5);
        x.repeat(0);
        x.repeat(0);
        x.foresee(0);
        Due.deliver(x, 0);
        x.deliver(0);
        x.deliver(0);
        Due.be("replays for 1", x.results(1, 6), 2);
        Due.be("replays for 0", x.results(0, 6), 0);
        Due.be("accepted by 1", x.results(1, 0), 3);
        x.deliver(5);
        Due.be("no packet, no result", x.results(1, 0) + x.results(0, 0), 5);
    }

    private static void resultsRange() {
        Doc.says("Promise 19", "- `result`: the result, 0 to 8");
        SessionSimulator x = new SessionSimulator();
        x.connect(5);
        x.alter(0, 1);
        x.deliver(0);
        Due.be("results(1, 8)", x.results(1, 8), 1);
        Due.be("results(1, 0)", x.results(1, 0), 0);
        for (int wrong : new int[] {-1, 9, LEAST, MOST}) {
            Due.be("results(1, " + wrong + ")", x.results(1, wrong), Due.BAD);
        }
        Doc.says("Promise 19", "Returns the count; BAD_ARGUMENT if there is no such endpoint or result.");
        for (int wrong : new int[] {-1, 2, LEAST, MOST}) {
            Due.be("results(" + wrong + ", 0)", x.results(wrong, 0), Due.BAD);
        }
        Due.be("results(0, 0)", x.results(0, 0), 0);
    }

    private static void countParts() {
        Doc.says("Promise 20", "- `what`: 0 for packets in the network, 1 for packets that were sent, 2 for those"
            + " delivered, 3 for those dropped, also by disconnect, 4 for those made by repeating, 5 for the time,"
            + " 6 for characters of the text, 7 for the session number");
        SessionSimulator x = Due.opened();
        x.disconnect();
        x.connect(5);
        for (int i = 0; i < 12; i++) {
            x.repeat(0);
        }
        x.drop(0);
        x.drop(0);
        x.tick(2);
        x.append('t', 40);
        int[] want = {11, 5, 4, 2, 12, 2, 40, 2};
        for (int what = 0; what <= 7; what++) {
            Due.be("count(" + what + ")", x.count(what), want[what]);
        }
        x.disconnect();
        Due.be("dropped, also by disconnect", x.count(3), 13);
        Due.be("packets", x.count(0), 0);
    }

    private static void countRange() {
        Doc.says("Promise 20", "Returns the count; BAD_ARGUMENT if what is not from 0 to 7.");
        SessionSimulator x = new SessionSimulator();
        Due.be("0", x.count(0), 0);
        Due.be("7", x.count(7), 0);
        for (int wrong : new int[] {-1, 8, LEAST, MOST}) {
            Due.be("count(" + wrong + ")", x.count(wrong), Due.BAD);
        }
    }

    private static void eventIndex() {
        Doc.says("Promise 21", "- `index`: the index, 0 for the latest event");
        SessionSimulator x = new SessionSimulator();
        x.connect(5);
        Due.event(x, 0, 0, 0, 0);
        Due.event(x, 1, 3, 0, 1);
        x.drop(0);
        Due.event(x, 0, 2, 0, 0);
        Due.event(x, 2, 3, 0, 1);
    }

    private static void eventParts() {
        Doc.says("Promise 21", "- `what`: 0 for the type, 1 and 2 for its numbers");
        SessionSimulator x = Due.opened();
        x.send(1, 5);
        x.repeat(0);
        Due.deliver(x, 0);
        x.deliver(0);
        Due.be("event(0, 0)", x.event(0, 0), 1);
        Due.be("event(0, 1)", x.event(0, 1), 4);
        Due.be("event(0, 2)", x.event(0, 2), 6);
    }

    private static void eventWithout() {
        Doc.says("Promise 21", "Returns the part; NONE if there is no such event; BAD_ARGUMENT if what is not from 0"
            + " to 2.");
        SessionSimulator x = new SessionSimulator();
        Due.be("no events", x.event(0, 0), Due.NONE);
        x.connect(5);
        Due.be("event(1, 0)", x.event(1, 0), 3);
        Due.be("event(2, 0)", x.event(2, 0), Due.NONE);
        Due.be("event(0, 3)", x.event(0, 3), Due.BAD);
        for (int wrong : new int[] {-1, LEAST, MOST}) {
            Due.be("event(" + wrong + ", 0)", x.event(wrong, 0), Due.NONE);
            Due.be("event(0, " + wrong + ")", x.event(0, wrong), Due.BAD);
        }
        for (int i = 0; i < 40; i++) {
            x.repeat(0);
            x.drop(0);
        }
        Due.be("event(29, 0)", x.event(29, 0), 2);
        Due.be("event(30, 0)", x.event(30, 0), Due.NONE);
    }

    private static void agreeOnlyIfAllIsSame() {
        Doc.says("Promise 22", "Returns whether both endpoints agree: both are open with the same session and the"
            + " same base.");
        SessionSimulator x = Due.opened();
        Due.be("both are open", x.agree(), 1);
        x.close(0);
        x.close(1);
        Due.deliver(x, 0, 0, 0);
        Due.be("one is closed", x.agree(), 0);
        x = Due.opened();
        x.disconnect();
        Due.be("both are idle, with the same session and base", x.agree(), 0);
        Due.be("the same session", x.endpoint(0, 1), x.endpoint(1, 1));
        Due.be("the same base", x.endpoint(0, 9), x.endpoint(1, 9));
        x.connect(6);
        Due.deliver(x, 0, 0);
        Due.be("one has replied", x.agree(), 0);
        Due.deliver(x, 0);
        Due.be("both are open", x.agree(), 1);
    }

    /**
     * Old copies of a hello and its finish open endpoint 1 in session 1, while endpoint 0 is open in
     * session 32; the nonces 37 and 21 give both sessions the same base.
     */
    private static void agreeOnlyInOneSession() {
        Doc.says("Promise 22", "both are open with the same session and the same base.");
        SessionSimulator x = new SessionSimulator();
        x.connect(37);
        x.repeat(0);
        Due.deliver(x, 0, 1);
        x.repeat(1);
        Due.deliver(x, 1, 2);
        x.close(0);
        x.close(1);
        Due.deliver(x, 2, 2, 2, 2);
        Due.be("both are closed", x.endpoint(0, 0) * 10 + x.endpoint(1, 0), 44);
        for (int session = 2; session <= 31; session++) {
            x.connect(0);
            x.alter(2, 50);
            x.deliver(2);
            Due.deliver(x, 2);
        }
        x.connect(21);
        Due.deliver(x, 2, 2, 0, 0);
        Due.be("both are open", x.endpoint(0, 0) * 10 + x.endpoint(1, 0), 33);
        Due.be("session of 0", x.endpoint(0, 1), 32);
        Due.be("session of 1", x.endpoint(1, 1), 1);
        Due.be("the same base", x.endpoint(0, 9), x.endpoint(1, 9));
        Due.be("agree", x.agree(), 0);
    }

    /**
     * Endpoint 0 has the reply to a hello, and endpoint 1 the base by its copy three ticks later; the
     * finish is altered until its tag is right by that base, too.
     */
    private static void agreeOnlyWithOneBase() {
        Doc.says("Promise 22", "both are open with the same session and the same base.");
        SessionSimulator x = new SessionSimulator();
        x.configure(6, 9, 20);
        x.tick(37);
        x.connect(3766);
        x.repeat(0);
        Due.deliver(x, 0);
        x.tick(3);
        Due.deliver(x, 0, 0);
        for (int i = 0; i < 4; i++) {
            x.alter(1, -99);
        }
        Due.be("b of the finish", x.alter(1, -87), -483);
        Due.deliver(x, 1);
        Due.be("both are open", x.endpoint(0, 0) * 10 + x.endpoint(1, 0), 33);
        Due.be("the same session", x.endpoint(0, 1), x.endpoint(1, 1));
        Due.be("base of 0", x.endpoint(0, 9), 7330584);
        Due.be("base of 1", x.endpoint(1, 9), 7329412);
        Due.be("agree", x.agree(), 0);
    }

    private static void agreeAnswers() {
        Doc.says("Promise 22", "Returns 1 if they do, otherwise 0.");
        Due.be("a new one", new SessionSimulator().agree(), 0);
        Due.be("both are closed", Due.closed().agree(), 0);
        Due.be("both are open", Due.opened().agree(), 1);
    }

    private static void appendCode() {
        Doc.says("Promise 23", "- `code`: the character, 0 to 127");
        SessionSimulator x = new SessionSimulator();
        for (int wrong : new int[] {-1, 128, LEAST, MOST}) {
            Due.be("append(" + wrong + ", 1)", x.append(wrong, 1), Due.BAD);
        }
        Due.be("append(0, 1)", x.append(0, 1), 1);
        Due.be("append(127, 1)", x.append(127, 1), 2);
    }

    private static void appendCount() {
        Doc.says("Promise 23", "- `count`: how many times, 1 to 40");
        SessionSimulator x = new SessionSimulator();
        for (int wrong : new int[] {-1, 0, 41, LEAST, MOST}) {
            Due.be("append('t', " + wrong + ")", x.append('t', wrong), Due.BAD);
        }
        Due.be("append('t', 1)", x.append('t', 1), 1);
        Due.be("it is there once", x.runScript(), 1);
        Due.be("append('t', 40)", x.append('t', 40), 40);
        Due.be("the second is an error", x.runScript(), -2001);
    }

    private static void appendToTheFull() {
        Doc.says("Promise 23", "Returns the length of the text afterwards; BAD_ARGUMENT if an argument is out of range;"
            + " FULL if the text would have more than 40 characters.");
        SessionSimulator x = new SessionSimulator();
        Due.be("38", x.append(' ', 38), 38);
        Due.be("3 more", x.append(' ', 3), Due.FULL);
        Due.be("2 more", x.append(' ', 2), 40);
        Due.be("1 more", x.append(' ', 1), Due.FULL);
        Due.be("40 more", x.append(' ', 40), Due.FULL);
        Due.be("characters", x.count(6), 40);
        x.runScript();
        Due.be("40 again", x.append(' ', 40), 40);
    }

    private static void scriptEndsBeforeErrors() {
        Doc.says("Promise 24", "It ends before the first action for which the method that does the same would return"
            + " an error code.");
        SessionSimulator x = Due.opened();
        Due.be("the first one", Due.run(x, "t51;t"), 0);
        Due.be("time", x.count(5), 0);
        Due.be("the last one", Due.run(x, "t;t50;t51"), 2);
        Due.be("time", x.count(5), 51);
        x.send(0, 5);
        Due.fillNetwork(x, 23);
        Due.be("a 25th packet", Due.run(x, "u0;u0;t"), 1);
        for (int i = 1; i < 15; i++) {
            x.send(0, i);
        }
        Due.be("a 17th message", Due.run(x, "s01;s02;t"), 1);
        x.close(1);
        Due.be("a message behind a close", Due.run(x, "s11;t"), 0);
        Due.be("no such packet is no error", Due.run(x, "x24;u24;d24;t0"), 4);
        Due.be("time", x.count(5), 51);
    }

    private static void scriptLeavesNoText() {
        Doc.says("Promise 24", "The text is empty afterwards, also after an error.");
        SessionSimulator x = new SessionSimulator();
        for (String text : List.of("t", "t;?", "t51", "")) {
            Due.run(x, text);
            Due.be("characters after '" + text + "'", x.count(6), 0);
        }
        Due.be("append", x.append('t', 1), 1);
        Due.be("runScript", x.runScript(), 1);
    }

    private static void scriptAnswers() {
        Doc.says("Promise 24", "Returns the number of actions done; -2000 minus the error offset if the text has a"
            + " syntax error, and then nothing is done.");
        SessionSimulator x = Due.opened();
        Due.be("an error at 0", Due.run(x, ";t"), -2000);
        Due.be("an error at 39", Due.run(x, "t;".repeat(19) + "t?"), -2039);
        Due.be("an error at 40", Due.run(x, "t;".repeat(20)), -2040);
        Due.be("nothing is done", x.count(5), 0);
        Due.be("no action done", Due.run(x, "t99"), 0);
        Due.be("20 actions", Due.run(x, "t;".repeat(19) + "t"), 20);
        Due.be("time", x.count(5), 20);
        Due.be("1 action after the 20", Due.run(x, "t"), 1);
        Due.be("time", x.count(5), 21);
    }

    /** Each part of the state is saved when it matters, and lost before it is restored. */
    private static void saveHoldsEverything() {
        Doc.says("Promise 25", "Saves everything but the text");
        SnapshotTest.promise26Tickets();
        SnapshotTest.promise26Messages();
        SnapshotTest.promise26PreviousWindow();
        SnapshotTest.promise26EachSituation();
    }

    private static void saveReplaces() {
        Doc.says("Promise 25", "replacing an earlier snapshot.");
        SessionSimulator x = Due.opened();
        x.save();
        x.send(0, 5);
        x.append('t', 2);
        List<Integer> before = State.of(x);
        x.save();
        Due.deliver(x, 0);
        x.restore();
        Due.same("the later snapshot", State.of(x), before);
        x.runScript();
        x.restore();
        Due.be("the text is not restored", x.count(6), 0);
    }

    private static void saveAnswers() {
        Doc.says("Promise 25", "Returns the number of packets in the network.");
        SessionSimulator x = new SessionSimulator();
        Due.be("empty", x.save(), 0);
        x.connect(5);
        Due.be("one", x.save(), 1);
        Due.fillNetwork(x);
        Due.be("full", x.save(), 24);
        x.disconnect();
        Due.be("restore the full one", x.restore(), 24);
        Due.be("packets", x.count(0), 24);
        Due.be("the last one", x.packet(23, 5), 5);
    }

    private static void restoreIsKept() {
        Doc.says("Promise 26", "Restores the snapshot, which is kept.");
        SessionSimulator x = Due.opened();
        x.save();
        List<Integer> before = State.of(x);
        for (int i = 0; i < 3; i++) {
            x.send(0, 5 + i);
            Due.deliver(x, 0);
            x.tick(4);
            x.disconnect();
            Due.be("restore", x.restore(), 0);
            Due.same("restored", State.of(x), before);
        }
    }

    private static void restoreLeavesTheText() {
        Doc.says("Promise 26", "The text stays.");
        SessionSimulator x = new SessionSimulator();
        x.append('t', 1);
        x.save();
        Due.type(x, ";t;t");
        x.restore();
        Due.be("characters", x.count(6), 5);
        Due.be("runScript", x.runScript(), 3);
        x.restore();
        Due.be("no characters", x.count(6), 0);
    }

    private static void restoreWithoutASnapshot() {
        Doc.says("Promise 26", "Returns the number of packets in the network; NONE if there is no snapshot.");
        SessionSimulator x = new SessionSimulator();
        Due.be("a new one", x.restore(), Due.NONE);
        x.connect(5);
        Due.be("no snapshot yet", x.restore(), Due.NONE);
        Due.be("nothing is changed", x.count(0), 1);
        x.save();
        x.drop(0);
        Due.be("one packet", x.restore(), 1);
        SessionSimulator y = new SessionSimulator();
        y.save();
        y.connect(5);
        Due.be("no packets", y.restore(), 0);
        Due.be("idle again", y.endpoint(0, 0), 0);
    }
}
