import java.util.List;
import java.util.function.Supplier;

/** Description: Text, Errors, Particulars and the constants. */
final class ParticularSentences {
    private ParticularSentences() {
    }

    static void all() {
        textOf40Characters();
        oneActionOrMore();
        actionsAndTheirNumbers();
        numbersOfOneOrTwoDigits();
        positionsOfActions();
        ticksAndValuesOfActions();
        secondDigit();
        errorOffsets();
        errorOffsetsAtTheEnds();
        tickNumber0();
        badArgumentsChangeNothing();
        statesChangeNothing();
        fullChangesNothing();
        runScriptEmptiesTheText();
        badArgumentComesFirst();
        stateComesBeforeFull();
        resumeInItsOrder();
        noneComesFirst();
        noneIsNoError();
        epochWithoutRoom();
        ticketInAFullNetwork();
        acknowledgementOfEachMessage();
        furtherWithoutTheFirst();
        epochAboveHasNoOldNumbers();
        noEventOfTheSameState();
        orderOfEvents();
        helloSentAgain();
        dueInEachTick();
        disconnectingLeaves();
        messagesOfEndpointsThatAreNotOpen();
        closedEndpointAndTickets();
        helloWithATicketLeaves();
        closeThatComesAgain();
        closedEndpointAcknowledges();
        t0IsAnAction();
        deliveredAndSent();
        settingsHoldAtOnce();
        savedToo();
        allCanBeAltered();
        constants();
    }

    private static void run(String text, int want) {
        SessionSimulator x = Due.opened();
        Due.type(x, text);
        Due.be("runScript of '" + text + "'", x.runScript(), want);
    }

    private static String ticks(int count) {
        return "t" + ";t".repeat(count - 1);
    }

    private static void textOf40Characters() {
        Doc.says("Description", "A text of at most 40 characters is a script: action { \";\" action }, with");
        SessionSimulator x = new SessionSimulator();
        Due.type(x, ticks(20));
        Due.be("39 characters", x.count(6), 39);
        Due.be("a 40th", x.append('2', 1), 40);
        Due.be("a 41st", x.append('2', 1), Due.FULL);
        Due.be("20 actions", x.runScript(), 20);
        Due.be("the last of 2 ticks", x.count(5), 21);
    }

    private static void oneActionOrMore() {
        Doc.says("Description", "is a script: action { \";\" action }");
        run("", -2000);
        run("t", 1);
        run("t;t", 2);
        run(";", -2000);
        run("t;", -2002);
        run("t;;t", -2002);
        run("tt", -2001);
        run("t,t", -2001);
        run("t t", -2001);
    }

    private static void actionsAndTheirNumbers() {
        Doc.says("Description", "action: ( \"d\" or \"x\" or \"u\" ) number, or \"t\" [ number ], or \"s\" endpoint"
            + " number");
        for (String action : List.of("d0", "x0", "u0", "t", "t0", "s00", "s10", "d12", "x12", "u12", "t12", "s012")) {
            run(action, 1);
        }
        for (String action : List.of("d", "x", "u", "s")) {
            run(action, -2001);
            run(action + ";", -2001);
        }
        for (String action : List.of("c0", "e0", "r0", "v0", "w0", "y0", "D0", "T", "0", "\u0000", "\u007f")) {
            run(action, -2000);
        }
    }

    private static void numbersOfOneOrTwoDigits() {
        Doc.says("Description", "number: digit [ digit ]; endpoint: 0 or 1");
        run("t9", 1);
        run("t09", 1);
        run("t009", -2003);
        run("s09", 1);
        run("s099", 1);
        run("s0999", -2004);
        run("s1", -2002);
        run("s29", -2001);
        run("s/9", -2001);
        run("d/", -2001);
        run("d:", -2001);
        run("t/", -2001);
        run("t:", -2001);
        run("d0/", -2002);
        run("d0:", -2002);
    }

    private static void positionsOfActions() {
        Doc.says("Description", "The actions are: to deliver, drop or repeat the packet at a position");
        SessionSimulator x = Due.opened();
        x.send(0, 7);
        Due.fillNetwork(x, 23);
        Due.be("u22", Due.run(x, "u22"), 1);
        Due.be("packets", x.count(0), 24);
        Due.be("x24 of none", Due.run(x, "x24"), 1);
        Due.be("packets", x.count(0), 24);
        Due.be("x23", Due.run(x, "x23"), 1);
        Due.be("packets", x.count(0), 23);
        Due.be("d22", Due.run(x, "d22"), 1);
        Due.be("taken", x.taken(1, 0), 7);
        Due.be("d0", Due.run(x, "d0"), 1);
        Due.be("a replay", x.results(1, 6), 1);
        Due.be("d99 of none", Due.run(x, "d99"), 1);
        Due.be("delivered", x.count(2), 6);
    }

    private static void ticksAndValuesOfActions() {
        Doc.says("Description", "some ticks (1 without a number), and to send a value from an endpoint.");
        SessionSimulator x = Due.opened();
        Due.run(x, "t");
        Due.be("t", x.count(5), 1);
        Due.run(x, "t1");
        Due.be("t1", x.count(5), 2);
        Due.run(x, "t50");
        Due.be("t50", x.count(5), 52);
        Due.be("t51", Due.run(x, "t51"), 0);
        Due.be("t99", Due.run(x, "t99"), 0);
        Due.be("no ticks", x.count(5), 52);
        Due.run(x, "s00;s099;s10;s199");
        int[][] values = {{0, 99}, {0, 99}};
        for (int e = 0; e <= 1; e++) {
            for (int i = 0; i < 2; i++) {
                Due.be("value " + i + " of endpoint " + e, x.kept(e, i, 1), values[e][i]);
            }
        }
    }

    private static void secondDigit() {
        Doc.says("Description", "A number has a second digit if a digit follows the first one.");
        SessionSimulator x = Due.opened();
        Due.run(x, "s015;s1;");
        Due.be("nothing is done with an error", x.endpoint(0, 5), 0);
        Due.run(x, "s015;s105;t10");
        Due.be("15, not 1", x.kept(0, 0, 1), 15);
        Due.be("05", x.kept(1, 0, 1), 5);
        Due.be("10 ticks", x.count(5), 10);
    }

    private static void errorOffsets() {
        Doc.says("Description", "The error offset of a text is the offset of the first character that cannot"
            + " continue a script");
        run("?", -2000);
        run("d?", -2001);
        run("d1?", -2002);
        run("d12?", -2003);
        run("d123", -2003);
        run("s?", -2001);
        run("s1?", -2002);
        run("s12?", -2003);
        run("s123?", -2004);
        run("s1234", -2004);
        run("t?", -2001);
        run("t1?", -2002);
        run("t12?", -2003);
        run("t;?", -2002);
        run("t;d?", -2003);
        run(ticks(19) + ";d?", -2039);
        run(ticks(20) + "?", -2039);
    }

    private static void errorOffsetsAtTheEnds() {
        Doc.says("Description", "or the length of the text if it ends too early.");
        run("", -2000);
        run("d", -2001);
        run("s", -2001);
        run("s0", -2002);
        run("t;", -2002);
        run(ticks(20) + ";", -2040);
        run(ticks(18) + ";t1;d", -2040);
    }

    private static void tickNumber0() {
        Doc.says("Description", "A tick number of 0 is allowed, and does nothing.");
        SessionSimulator x = new SessionSimulator();
        x.configure(6, 1, 20);
        x.connect(5);
        Due.be("t0;t00", Due.run(x, "t0;t00"), 2);
        Due.be("time", x.count(5), 0);
        Due.be("packets", x.count(0), 1);
        Due.be("but tick(0) is not", x.tick(0), Due.BAD);
    }

    /** Open, with a message that waits and one that is kept, a snapshot and a text. */
    private static SessionSimulator busy() {
        SessionSimulator x = Due.opened();
        x.send(0, 5);
        x.send(0, 6);
        x.send(1, 7);
        Due.deliver(x, 1);
        x.tick(1);
        x.append('t', 3);
        return x;
    }

    private static void badArgumentsChangeNothing() {
        Doc.says("Description", "A call that returns an error code changes nothing");
        Supplier<SessionSimulator> busy = ParticularSentences::busy;
        Due.refused("configure(0, 5, 5)", busy, x -> x.configure(0, 5, 5), Due.BAD);
        Due.refused("configure(5, 0, 5)", busy, x -> x.configure(5, 0, 5), Due.BAD);
        Due.refused("configure(5, 5, 51)", busy, x -> x.configure(5, 5, 51), Due.BAD);
        Due.refused("connect(-1)", SessionSimulator::new, x -> x.connect(-1), Due.BAD);
        Due.refused("resume(10000)", ParticularSentences::idleWithTicket, x -> x.resume(10000), Due.BAD);
        Due.refused("send(0, 1000)", busy, x -> x.send(0, 1000), Due.BAD);
        Due.refused("send(2, 1)", busy, x -> x.send(2, 1), Due.BAD);
        Due.refused("close(-1)", busy, x -> x.close(-1), Due.BAD);
        Due.refused("close(2)", busy, x -> x.close(2), Due.BAD);
        Due.refused("alter(0, 100)", busy, x -> x.alter(0, 100), Due.BAD);
        Due.refused("tick(0)", busy, x -> x.tick(0), Due.BAD);
        Due.refused("tick(51)", busy, x -> x.tick(51), Due.BAD);
        Due.refused("packet(0, 9)", busy, x -> x.packet(0, 9), Due.BAD);
        Due.refused("endpoint(0, 12)", busy, x -> x.endpoint(0, 12), Due.BAD);
        Due.refused("window(0, 2)", busy, x -> x.window(0, 2), Due.BAD);
        Due.refused("kept(0, 0, 4)", busy, x -> x.kept(0, 0, 4), Due.BAD);
        Due.refused("results(0, 9)", busy, x -> x.results(0, 9), Due.BAD);
        Due.refused("count(8)", busy, x -> x.count(8), Due.BAD);
        Due.refused("event(0, 3)", busy, x -> x.event(0, 3), Due.BAD);
        Due.refused("append(128, 1)", busy, x -> x.append(128, 1), Due.BAD);
        Due.refused("append(50, 41)", busy, x -> x.append(50, 41), Due.BAD);
    }

    private static SessionSimulator idleWithTicket() {
        SessionSimulator x = Due.opened();
        x.send(0, 5);
        x.disconnect();
        return x;
    }

    private static void statesChangeNothing() {
        Doc.says("Description", "A call that returns an error code changes nothing");
        Due.refused("connect(1)", ParticularSentences::busy, x -> x.connect(1), Due.STATE);
        Due.refused("resume(1)", ParticularSentences::busy, x -> x.resume(1), Due.STATE);
        Due.refused("resume(1) when closed", Due::closed, x -> x.resume(1), Due.STATE);
        Due.refused("send(1, 1) when closed", Due::closed, x -> x.send(1, 1), Due.STATE);
        Due.refused("close(1) when closed", Due::closed, x -> x.close(1), Due.STATE);
        Supplier<SessionSimulator> closing = () -> {
            SessionSimulator x = busy();
            x.close(0);
            return x;
        };
        Due.refused("send(0, 1) behind a close", closing, x -> x.send(0, 1), Due.STATE);
        Due.refused("close(0) behind a close", closing, x -> x.close(0), Due.STATE);
    }

    /** Endpoint 0 is idle by a refusal, and has a ticket and a message; the network is full. */
    private static SessionSimulator idleAndFull() {
        SessionSimulator x = idleWithTicket();
        x.connect(7);
        x.send(0, 8);
        x.alter(0, 50);
        x.repeat(0);
        x.deliver(0);
        Due.deliver(x, 1);
        Due.fillNetwork(x);
        Due.be("state", x.endpoint(0, 0), 0);
        Due.be("ticket", x.endpoint(0, 11), 0);
        return x;
    }

    private static SessionSimulator sixteenMessages() {
        SessionSimulator x = Due.opened();
        for (int i = 0; i < 16; i++) {
            x.send(0, i);
        }
        return x;
    }

    private static void fullChangesNothing() {
        Doc.says("Description", "A call that returns an error code changes nothing");
        Supplier<SessionSimulator> full = ParticularSentences::idleAndFull;
        Due.refused("connect(1)", full, x -> x.connect(1), Due.FULL);
        Due.refused("resume(1)", full, x -> x.resume(1), Due.FULL);
        Due.refused("repeat(0)", full, x -> x.repeat(0), Due.FULL);
        Due.refused("send(0, 1)", ParticularSentences::sixteenMessages, x -> x.send(0, 1), Due.FULL);
        Due.refused("close(0)", ParticularSentences::sixteenMessages, x -> x.close(0), Due.FULL);
        Due.refused("append('t', 38)", ParticularSentences::busy, x -> x.append('t', 38), Due.FULL);
        SessionSimulator x = new SessionSimulator();
        x.append('t', 1);
        x.append(';', 40);
        Due.be("the text is t still", x.runScript(), 1);
    }

    private static void runScriptEmptiesTheText() {
        Doc.says("Description", "except that runScript empties the text.");
        SessionSimulator x = new SessionSimulator();
        Due.type(x, "t;t;?");
        Due.be("runScript", x.runScript(), -2004);
        Due.be("characters", x.count(6), 0);
        Due.be("time", x.count(5), 0);
        Due.be("runScript without a text", x.runScript(), -2000);
    }

    private static void badArgumentComesFirst() {
        Doc.says("Description", "If several errors apply, the one that is listed first at the method is returned.");
        SessionSimulator x = Due.closed();
        Due.be("send(1, 1000) when closed", x.send(1, 1000), Due.BAD);
        Due.be("resume(-1) when closed", x.resume(-1), Due.BAD);
        x = sixteenMessages();
        Due.be("send(0, -1000) with 16", x.send(0, -1000), Due.BAD);
        Due.be("connect(10000) when open", x.connect(10000), Due.BAD);
        x = idleAndFull();
        Due.be("connect(10000) when full", x.connect(10000), Due.BAD);
        Due.be("resume(10000) when full", x.resume(10000), Due.BAD);
        x.append('t', 40);
        Due.be("append(-1, 1) when full", x.append(-1, 1), Due.BAD);
        Due.be("append(1, 41) when full", x.append(1, 41), Due.BAD);
    }

    private static void stateComesBeforeFull() {
        Doc.says("Description", "If several errors apply, the one that is listed first at the method is returned.");
        SessionSimulator x = Due.opened();
        for (int i = 0; i < 15; i++) {
            x.send(0, i);
        }
        Due.be("the 16th", x.close(0), 15);
        Due.be("send(0, 1)", x.send(0, 1), Due.STATE);
        Due.be("close(0)", x.close(0), Due.STATE);
        Due.fillNetwork(x);
        Due.be("connect(1)", x.connect(1), Due.STATE);
        Due.be("resume(1)", x.resume(1), Due.STATE);
    }

    private static void resumeInItsOrder() {
        Doc.says("Description", "If several errors apply, the one that is listed first at the method is returned.");
        SessionSimulator x = new SessionSimulator();
        Due.be("bad argument before none", x.resume(-1), Due.BAD);
        x.connect(1);
        Due.be("state before none", x.resume(1), Due.STATE);
        x.alter(0, 50);
        x.repeat(0);
        x.deliver(0);
        Due.deliver(x, 1);
        Due.fillNetwork(x);
        Due.be("idle", x.endpoint(0, 0), 0);
        Due.be("none before full", x.resume(1), Due.NONE);
    }

    private static void noneComesFirst() {
        Doc.says("Description", "the one that is listed first at the method is returned.");
        SessionSimulator x = Due.opened();
        Due.be("alter(0, 100)", x.alter(0, 100), Due.NONE);
        Due.be("packet(0, 9)", x.packet(0, 9), Due.NONE);
        Due.be("kept(0, 0, 4)", x.kept(0, 0, 4), Due.NONE);
        Due.be("kept(2, 0, 4)", x.kept(2, 0, 4), Due.NONE);
        Due.be("event(30, 3)", x.event(30, 3), Due.NONE);
        x.send(0, 1);
        Due.fillNetwork(x);
        Due.be("repeat(24) when full", x.repeat(24), Due.NONE);
        Due.be("window(2, 1): none is listed last", x.window(2, 1), Due.BAD);
    }

    private static void noneIsNoError() {
        Doc.says("Description", "NONE is not an error.");
        SessionSimulator x = new SessionSimulator();
        Due.be("three actions without packets", Due.run(x, "d0;x0;u0;t"), 4);
        Due.be("time", x.count(5), 1);
    }

    private static void epochWithoutRoom() {
        Doc.says("Description", "A packet for which there is no room leaves the sending epoch as it is");
        SessionSimulator x = Due.opened();
        x.configure(1, 3, 20);
        x.send(1, 7);
        Due.fillNetwork(x);
        x.send(0, 5);
        Due.be("sending epoch", x.endpoint(0, 2), 0);
        Due.be("next sequence number", x.endpoint(0, 3), 1);
        x.drop(0);
        x.tick(1);
        Due.packet(x, 23, 0, 4, 1, 1, 0);
        Due.be("sending epoch", x.endpoint(0, 2), 1);
    }

    /** A delivery frees a place, and the ticket is the first to be sent: want of room cannot be met. */
    private static void ticketInAFullNetwork() {
        Doc.says("Description", "a ticket that cannot be sent for want of room is issued all the same.");
        SessionSimulator x = new SessionSimulator();
        x.connect(5);
        x.send(0, 9);
        Due.deliver(x, 0, 0);
        Due.fillNetwork(x);
        Due.be("the finish is repeated", x.packet(23, 1), 3);
        Due.deliver(x, 1);
        Due.be("issued", x.endpoint(1, 11), 1);
        Due.be("the only room is the ticket's", x.packet(23, 1), 6);
        Due.be("the message is taken", x.taken(1, 0), 9);
        Due.be("none for an acknowledgement", Due.at(x, 1, 5), -1);
        Due.be("which used no sequence number", x.endpoint(1, 3), 1);
    }

    private static void acknowledgementOfEachMessage() {
        Doc.says("Description", "An acknowledgement is sent for each accepted packet of the kinds 4 and 7, also if"
            + " its message had been taken.");
        SessionSimulator x = Due.opened();
        x.configure(20, 3, 20);
        x.send(0, 5);
        x.close(0);
        x.tick(3);
        Due.deliver(x, 0, 0);
        Due.be("two messages and two acknowledgements", x.count(0), 4);
        Due.deliver(x, 0, 0);
        Due.be("four acknowledgements", x.count(0), 4);
        for (int i = 0; i < 4; i++) {
            Due.packet(x, i, 1, 5, 1, 0, 1 + i, 0, 0, Math.min(i + 1, 2));
        }
        x = Due.opened();
        x.send(0, 5);
        x.send(0, 6);
        Due.deliver(x, 1);
        Due.packet(x, 1, 1, 5, 1, 0, 1, 0, 0, 0);
        x.repeat(0);
        Due.deliver(x, 0);
        x.deliver(1);
        Due.be("none for a packet that is not accepted", x.count(0), 2);
    }

    private static void furtherWithoutTheFirst() {
        Doc.says("Description", "The 4 further packets do not include the one that changed the epoch.");
        SessionSimulator x = Due.opened();
        x.configure(1, 1, 20);
        x.send(0, 5);
        x.configure(20, 1, 20);
        x.tick(4);
        Due.deliver(x, 0);
        Due.be("epoch 1", x.endpoint(1, 4), 1);
        Due.deliver(x, 0, 0, 0);
        Due.be("the first and 3 further", x.endpoint(1, 10), 1);
        Due.deliver(x, 0);
        Due.be("the first and 4 further", x.endpoint(1, 10), 0);
    }

    /** The window has accepted number 15; the next epochs begin with number 0 again. */
    private static void epochAboveHasNoOldNumbers() {
        Doc.says("Description", "The results 5 and 6 do not apply to a packet of an epoch above the receiving one.");
        SessionSimulator x = Due.opened();
        x.configure(20, 1, 20);
        x.send(0, 5);
        x.tick(14);
        x.configure(1, 1, 20);
        x.tick(2);
        Due.packet(x, 14, 0, 4, 1, 0, 15);
        Due.packet(x, 15, 0, 4, 1, 1, 0);
        Due.packet(x, 16, 0, 4, 1, 2, 0);
        Due.be("number 0 was accepted in epoch 0", x.window(1, 0), 1);
        Due.be("number 0 of epoch 1", x.foresee(15), 0);
        Due.be("number 0 of epoch 2", x.foresee(16), 0);
        Due.deliver(x, 14);
        Due.be("number 15 was accepted in epoch 0", x.window(1, 0), 15 * 256 + 1);
        Due.be("number 0 of epoch 1", x.foresee(14), 0);
        Due.be("number 0 of epoch 2", x.foresee(15), 0);
        Due.be("number 1 of epoch 0", x.foresee(0), 5);
    }

    private static void noEventOfTheSameState() {
        Doc.says("Description", "An event of a state is made only if the state is another one.");
        SessionSimulator x = new SessionSimulator();
        x.disconnect();
        Due.be("idle and idle again", x.event(0, 0), Due.NONE);
        x.connect(5);
        x.repeat(0);
        Due.deliver(x, 0);
        Due.event(x, 1, 3, 1, 2);
        Due.deliver(x, 0);
        Due.event(x, 0, 0, 1, 1);
        Due.event(x, 1, 1, 0, 0);
        x = Due.closed();
        x.disconnect();
        Due.event(x, 0, 3, 1, 4);
    }

    private static void orderOfEvents() {
        Doc.says("Description", "Events are made in the order in which this document tells what happens, the state"
            + " first, then packets, and endpoint 0 before endpoint 1.");
        SessionSimulator x = new SessionSimulator();
        x.connect(5);
        Due.event(x, 1, 3, 0, 1);
        Due.event(x, 0, 0, 0, 0);
        x.send(0, 7);
        Due.deliver(x, 0, 0, 1);
        Due.event(x, 3, 1, 4, 0);
        Due.event(x, 2, 3, 1, 3);
        Due.event(x, 1, 0, 1, 6);
        Due.event(x, 0, 0, 1, 5);
        x.disconnect();
        Due.event(x, 1, 3, 0, 0);
        Due.event(x, 0, 3, 1, 0);
        x = Due.opened();
        x.send(1, 5);
        x.send(0, 6);
        x.tick(3);
        Due.event(x, 1, 0, 0, 4);
        Due.event(x, 0, 0, 1, 4);
    }

    private static void helloSentAgain() {
        Doc.says("Description", "A hello that is sent again is the same packet, and counts as sent.");
        SessionSimulator x = idleWithTicket();
        x.resume(9);
        int sent = x.count(1);
        x.tick(3);
        Due.be("two hellos", x.count(0), 2);
        for (int what = 0; what <= 8; what++) {
            Due.be("part " + what, x.packet(1, what), x.packet(0, what));
        }
        Due.be("its ticket", x.packet(1, 6), 0);
        Due.be("sent", x.count(1), sent + 1);
        Due.be("not by repeating", x.count(4), 0);
        Due.event(x, 0, 0, 0, 0);
        Due.event(x, 1, 0, 0, 0);
    }

    private static void dueInEachTick() {
        Doc.says("Description", "In each tick, an open endpoint sends what is due.");
        SessionSimulator x = Due.opened();
        x.configure(6, 9, 20);
        x.send(1, 7);
        Due.fillNetwork(x);
        x.send(0, 5);
        Due.be("no room", x.kept(0, 0, 3), -1);
        x.drop(0);
        Due.be("room is not enough", x.kept(0, 0, 3), -1);
        x.tick(1);
        Due.be("sent in the first tick, long before the timeout", x.kept(0, 0, 3), 1);
    }

    private static void disconnectingLeaves() {
        Doc.says("Description", "Disconnecting leaves messages that are kept, the times at which they were sent,"
            + " epochs, windows and bases as they are.");
        SessionSimulator x = Due.opened();
        x.configure(1, 3, 20);
        x.tick(2);
        x.send(0, 5);
        x.send(1, 6);
        Due.deliver(x, 0, 0);
        int[] parts = {2, 3, 4, 5, 6, 8, 9, 10, 11};
        int[][] before = new int[2][parts.length];
        for (int e = 0; e <= 1; e++) {
            for (int i = 0; i < parts.length; i++) {
                before[e][i] = x.endpoint(e, parts[i]);
            }
        }
        Due.be("two acknowledgements are lost", x.disconnect(), 2);
        for (int e = 0; e <= 1; e++) {
            for (int i = 0; i < parts.length; i++) {
                Due.be("endpoint(" + e + ", " + parts[i] + ")", x.endpoint(e, parts[i]), before[e][i]);
            }
            Due.be("value", x.kept(e, 0, 1), 5 + e);
            Due.be("sent at", x.kept(e, 0, 3), 2);
            Due.be("window", x.window(e, 0), 1);
            Due.be("previous window", x.window(e, 1), 1);
        }
    }

    private static void messagesOfEndpointsThatAreNotOpen() {
        Doc.says("Description", "Messages of an endpoint that is not open are kept and not sent.");
        SessionSimulator x = new SessionSimulator();
        x.send(1, 4);
        x.connect(5);
        x.send(0, 6);
        Due.be("idle 1: kept", x.kept(1, 0, 1), 4);
        Due.be("waiting 0: kept", x.kept(0, 0, 1), 6);
        Due.deliver(x, 0);
        x.send(1, 7);
        x.configure(6, 9, 20);
        x.tick(8);
        Due.be("replied 1: kept", x.kept(1, 0, 1), 7);
        Due.be("not sent", x.kept(1, 0, 3), -1);
        Due.be("not sent", x.kept(0, 0, 3), -1);
        Due.be("the reply alone", x.count(0), 1);
    }

    private static void closedEndpointAndTickets() {
        Doc.says("Description", "A closed endpoint 0 does not take tickets.");
        SessionSimulator x = new SessionSimulator();
        x.connect(5);
        Due.deliver(x, 0, 0, 0);
        x.close(0);
        x.close(1);
        Due.deliver(x, 1, 1, 1);
        Due.be("closed", x.endpoint(0, 0), 4);
        Due.packet(x, 0, 1, 6);
        Due.be("the ticket", x.deliver(0), 1);
        Due.be("none", x.endpoint(0, 11), -1);
    }

    private static void helloWithATicketLeaves() {
        Doc.says("Description", "A hello with a ticket leaves the stream, messages and what waits.");
        SessionSimulator x = Due.opened();
        x.send(0, 5);
        Due.deliver(x, 0);
        x.send(1, 6);
        x.close(1);
        x.disconnect();
        x.resume(1);
        Due.deliver(x, 0);
        Due.be("expected", x.endpoint(1, 6), 1);
        Due.be("taken", x.taken(1, 0), 5);
        Due.be("two messages", x.endpoint(1, 5), 2);
        Due.be("the value", x.kept(1, 0, 1), 6);
        Due.be("the close", x.kept(1, 1, 2), 1);
        Due.be("is its own still", x.send(1, 7), Due.STATE);
    }

    private static void closeThatComesAgain() {
        Doc.says("Description", "A closing message that comes again is accepted.");
        SessionSimulator x = Due.opened();
        x.close(0);
        x.tick(3);
        Due.deliver(x, 0);
        Due.packet(x, 0, 0, 7, 1, 0, 2, 0);
        Due.be("the close again", x.deliver(0), 0);
        Due.be("acknowledged again", x.count(0), 2);
        Due.be("expected", x.endpoint(1, 6), 1);
    }

    private static void closedEndpointAcknowledges() {
        Doc.says("Description", "A closed endpoint acknowledges, but sends nothing else.");
        SessionSimulator x = Due.opened();
        x.close(0);
        Due.deliver(x, 0, 0);
        x.close(1);
        x.tick(3);
        Due.deliver(x, 0);
        Due.be("closed", x.endpoint(0, 0), 4);
        x.drop(1);
        int sent = x.count(1);
        Due.deliver(x, 0);
        Due.be("one packet is sent", x.count(1), sent + 1);
        Due.packet(x, 0, 0, 5, 1, 0, 3, 0, 0, 1);
        x.drop(0);
        x.configure(6, 9, 20);
        x.tick(5);
        Due.be("and no other", x.count(1), sent + 1);
        Due.be("closed still", x.endpoint(0, 0), 4);
        Due.be("no message is added", x.send(0, 1), Due.STATE);
    }

    private static void t0IsAnAction() {
        Doc.says("Description", "In a script, t0 is an action that is done.");
        SessionSimulator x = new SessionSimulator();
        Due.be("t0", Due.run(x, "t0"), 1);
        Due.be("t0;t;t0", Due.run(x, "t0;t;t0"), 3);
        Due.be("time", x.count(5), 1);
        Due.be("behind an error it is not", Due.run(x, "t51;t0"), 0);
    }

    private static void deliveredAndSent() {
        Doc.says("Description", "Packets count as delivered with each result, and as sent without those made by"
            + " repeating.");
        SessionSimulator x = Due.opened();
        Due.be("hello, reply, finish and ticket are sent", x.count(1), 4);
        x.send(0, 5);
        x.repeat(0);
        x.repeat(0);
        x.alter(2, 1);
        Due.be("sent", x.count(1), 5);
        Due.be("repeated", x.count(4), 2);
        Due.deliver(x, 0);
        Due.be("a replay", x.deliver(0), 6);
        Due.be("a wrong tag", x.deliver(0), 4);
        Due.be("delivered", x.count(2), 7);
        Due.be("sent, with an acknowledgement", x.count(1), 6);
        Due.be("deliver(1) of none", x.deliver(1), Due.NONE);
        Due.be("delivered", x.count(2), 7);
    }

    private static void settingsHoldAtOnce() {
        Doc.says("Description", "Settings hold at once.");
        SessionSimulator x = Due.opened();
        x.send(0, 5);
        x.configure(2, 3, 20);
        x.send(0, 6);
        Due.packet(x, 1, 0, 4, 1, 1, 0);
        x.configure(20, 1, 20);
        x.tick(1);
        Due.be("sent again at the new timeout", x.kept(0, 0, 3), 1);
        x.disconnect();
        x.resume(5);
        Due.be("life 20", x.foresee(0), 0);
        x.configure(20, 1, 0);
        Due.be("life 0", x.foresee(0), 8);
    }

    private static void savedToo() {
        Doc.says("Description", "The log, the counts and the settings are saved, too.");
        SessionSimulator x = busy();
        x.configure(1, 2, 3);
        x.save();
        List<Integer> before = State.of(x);
        x.configure(20, 9, 50);
        Due.deliver(x, 0);
        x.repeat(0);
        x.drop(0);
        x.tick(9);
        x.disconnect();
        x.connect(5);
        x.restore();
        Due.same("restored", State.of(x), before);
        Due.be("settings", x.configure(6, 3, 20), 1203);
        Due.event(x, 0, 0, 1, 5);
    }

    private static void allCanBeAltered() {
        Doc.says("Description", "All packets can be altered.");
        SessionSimulator x = new SessionSimulator();
        x.connect(5);
        Due.be("kind 0", x.alter(0, 1), 0);
        x.alter(0, -1);
        x.repeat(0);
        Due.deliver(x, 0);
        x.alter(0, 9);
        x.deliver(0);
        Due.packet(x, 0, 1, 1);
        Due.packet(x, 1, 1, 2);
        Due.be("kind 1", x.alter(0, 5), 5);
        Due.be("kind 2", x.alter(1, -5), -5);
        Due.deliver(x, 0);
        Due.be("kind 3", x.alter(1, 7), 7);
        x.alter(1, -7);
        Due.deliver(x, 1);
        Due.be("kind 6", x.alter(1, 99), 99);
        x.send(0, 3);
        Due.be("kind 4", x.alter(2, -99), -96);
        x.alter(2, 99);
        Due.deliver(x, 2);
        Due.be("kind 5", x.alter(2, 1), 1);
        x.close(1);
        Due.be("kind 7", x.alter(3, 1), 1);
    }

    private static void constants() {
        Doc.says("Description", "- `NONE = -1000000001`: There is no such object.");
        Due.be("NONE", SessionSimulator.NONE, -1000000001);
        Due.be("deliver(0)", new SessionSimulator().deliver(0), -1000000001);
        Doc.says("Description", "- `BAD_ARGUMENT = -1000000002`: An argument is outside its range.");
        Due.be("BAD_ARGUMENT", SessionSimulator.BAD_ARGUMENT, -1000000002);
        Due.be("connect(-1)", new SessionSimulator().connect(-1), -1000000002);
        Doc.says("Description", "- `FULL = -1000000003`: A limit would be exceeded.");
        Due.be("FULL", SessionSimulator.FULL, -1000000003);
        Due.be("a 17th message", sixteenMessages().send(0, 1), -1000000003);
        Doc.says("Description", "- `STATE = -1000000004`: The state of an endpoint does not allow the call.");
        Due.be("STATE", SessionSimulator.STATE, -1000000004);
        Due.be("connect(1)", Due.opened().connect(1), -1000000004);
    }
}
