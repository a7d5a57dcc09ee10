/** Description: Receiving. The results of delivering, and the windows. */
final class ReceivingSentences {
    private static final int STATE = 1;
    private static final int SESSION = 2;
    private static final int EPOCH = 3;
    private static final int TAG = 4;
    private static final int OLD = 5;
    private static final int AGAIN = 6;
    private static final int BEHIND_CLOSE = 7;
    private static final int TICKET = 8;

    private ReceivingSentences() {
    }

    static void all() {
        stateComesBeforeSession();
        stateComesBeforeTicket();
        sessionComesBeforeEpochAndTag();
        epochComesBeforeTag();
        tagComesBeforeWindow();
        oldComesBeforeAgain();
        oldComesBeforeClose();
        againComesBeforeClose();
        endpoint1TakesHellos();
        endpoint0TakesRepliesAndRefusals();
        openEndpointsTakeProtectedOnes();
        repliedAndClosedTakeAllButTickets();
        sessionOfAnother();
        sessionOfAHello();
        withoutATicket();
        ticketsJustIssuedAndNot();
        ticketUsed();
        ticketAgeAndLife();
        ticketLife0();
        epochsAheadAndBehind();
        epochBehindWithoutPrevious();
        tagOfEachKind();
        sevenAndEightBehind();
        emptyWindowHasNoHighest();
        sevenAndEightBehindInThePreviousWindow();
        againInTheWindow();
        againInThePreviousWindow();
        numberOfTheCloseAndOneMore();
        numberBehindAnUntakenClose();
        acceptedIsZero();
        windowsAtFirst();
        epochGreaterByOne();
        epochGreaterByTwo();
        newWindowIsEmpty();
        threeAndFourFurther();
        fourFurtherAreCountedAnew();
        enteredInTheWindowOfItsEpoch();
    }

    /** Endpoint 0 sends message 0 each tick: at position i stands sequence number i + 1 of epoch 0. */
    private static SessionSimulator resent(int last) {
        SessionSimulator x = Due.opened();
        x.configure(20, 1, 50);
        x.send(0, 1);
        for (int i = 1; i < last; i++) {
            x.tick(1);
        }
        Due.packet(x, last - 1, 0, 4, 1, 0, last);
        return x;
    }

    /** As resent, but at position i stands sequence number 0 of epoch i, and number 1 of epoch 0. */
    private static SessionSimulator epochs(int last) {
        SessionSimulator x = resent(1);
        x.configure(1, 1, 50);
        for (int i = 1; i <= last; i++) {
            x.tick(1);
            Due.packet(x, i, 0, 4, 1, i, 0);
        }
        return x;
    }

    /**
     * Both endpoints are closed. In the network stand copies of what was delivered in session 1:
     * 0 and 1 hello, 2 reply, 3 finish, 4 ticket, 5 and 6 data, 7 acknowledgement and 8 close of
     * endpoint 0, 9 acknowledgement and 10 close of endpoint 1.
     */
    private static SessionSimulator closedWithCopies() {
        SessionSimulator x = new SessionSimulator();
        x.connect(5);
        x.repeat(0);
        copyAndDeliver(x, 1, 2, 3, 4);
        x.send(0, 9);
        copyAndDeliver(x, 5);
        Due.deliver(x, 6);
        x.send(1, 8);
        copyAndDeliver(x, 6, 7);
        x.close(0);
        copyAndDeliver(x, 8, 9);
        x.close(1);
        copyAndDeliver(x, 10);
        Due.deliver(x, 11);
        int[] senders = {0, 0, 1, 0, 1, 0, 1, 0, 0, 1, 1};
        int[] kinds = {0, 0, 1, 3, 6, 4, 4, 5, 7, 5, 7};
        for (int i = 0; i < kinds.length; i++) {
            Due.packet(x, i, senders[i], kinds[i], 1);
        }
        Due.be("packets", x.count(0), kinds.length);
        Due.be("both are closed", x.endpoint(0, 0) * 10 + x.endpoint(1, 0), 44);
        return x;
    }

    /** The position is the last one, so the copy takes it, and what the delivery sends stands behind. */
    private static void copyAndDeliver(SessionSimulator x, int... positions) {
        for (int position : positions) {
            Due.be("packets before the copy", x.count(0), position + 1);
            x.repeat(position);
            Due.deliver(x, position);
        }
    }

    private static void foresee(SessionSimulator x, int result, int... positions) {
        for (int position : positions) {
            Due.be("foresee(" + position + "), a packet of kind " + x.packet(position, 1),
                x.foresee(position), result);
        }
    }

    private static void stateComesBeforeSession() {
        Doc.says("Description", "A packet that is delivered to the endpoint that did not send it has a result,"
            + " the first of these that applies:");
        SessionSimulator x = closedWithCopies();
        x.connect(6);
        Due.be("an acknowledgement of session 1 while waiting in session 2", x.foresee(9), STATE);
        Due.be("delivered", x.deliver(9), STATE);
    }

    private static void stateComesBeforeTicket() {
        Doc.says("Description", "the first of these that applies:");
        SessionSimulator x = new SessionSimulator();
        x.connect(5);
        x.repeat(0);
        Due.deliver(x, 0, 1, 1);
        x.alter(0, 50);
        Due.be("a hello with ticket 49 for an open endpoint", x.deliver(0), STATE);
    }

    private static void sessionComesBeforeEpochAndTag() {
        Doc.says("Description", "the first of these that applies:");
        SessionSimulator x = closedWithCopies();
        x.alter(5, 1);
        Due.be("altered data in session 1", x.foresee(5), TAG);
        x.connect(6);
        Due.deliver(x, 11);
        Due.be("altered data of session 1 in session 2", x.foresee(5), SESSION);
        x = closedWithEpochs();
        x.connect(6);
        Due.deliver(x, 3);
        Due.be("the receiving epoch", x.endpoint(1, 4), 0);
        Due.be("epoch 3 of session 1 in session 2", x.foresee(2), SESSION);
    }

    /** Both endpoints are closed, and at position 2 stands a packet of endpoint 0 with epoch 3. */
    private static SessionSimulator closedWithEpochs() {
        SessionSimulator x = Due.opened();
        x.configure(1, 1, 50);
        x.send(0, 1);
        x.tick(2);
        Due.deliver(x, 1);
        x.repeat(1);
        Due.deliver(x, 1, 3);
        x.configure(20, 9, 50);
        x.close(0);
        Due.deliver(x, 3, 3);
        x.close(1);
        Due.deliver(x, 3, 3);
        Due.be("both are closed", x.endpoint(0, 0) * 10 + x.endpoint(1, 0), 44);
        Due.packet(x, 2, 0, 4, 1, 3, 0);
        return x;
    }

    private static void epochComesBeforeTag() {
        Doc.says("Description", "the first of these that applies:");
        SessionSimulator x = epochs(3);
        x.alter(3, 1);
        x.alter(2, 1);
        Due.be("altered, three epochs ahead", x.foresee(3), EPOCH);
        Due.be("altered, two epochs ahead", x.foresee(2), TAG);
    }

    private static void tagComesBeforeWindow() {
        Doc.says("Description", "the first of these that applies:");
        SessionSimulator x = resent(9);
        x.repeat(8);
        Due.deliver(x, 8);
        Due.packet(x, 8, 0, 4, 1, 0, 9);
        Due.be("number 9 again", x.foresee(8), AGAIN);
        x.alter(8, 1);
        Due.be("altered", x.foresee(8), TAG);
        Due.be("number 1 is too old", x.foresee(0), OLD);
        x.alter(0, 1);
        Due.be("altered, too", x.foresee(0), TAG);
    }

    private static void oldComesBeforeAgain() {
        Doc.says("Description", "the first of these that applies:");
        SessionSimulator x = resent(10);
        x.repeat(0);
        Due.deliver(x, 0);
        Due.packet(x, 9, 0, 4, 1, 0, 1);
        Due.deliver(x, 6);
        Due.be("number 1 again, 8 is the highest", x.foresee(8), AGAIN);
        Due.deliver(x, 6);
        Due.be("number 1 again, 9 is the highest", x.foresee(7), OLD);
    }

    /** Endpoint 1 keeps the close number 0 of a stream that endpoint 0 has left; ticket 0 is used. */
    private static SessionSimulator closeOfAnOldStream() {
        SessionSimulator x = Due.opened();
        x.close(0);
        Due.deliver(x, 0, 0);
        x.disconnect();
        x.configure(20, 1, 50);
        x.connect(2);
        x.alter(0, 1);
        Due.deliver(x, 0, 0, 0, 0);
        Due.be("endpoint 1 expects", x.endpoint(1, 6), 1);
        return x;
    }

    private static void oldComesBeforeClose() {
        Doc.says("Description", "the first of these that applies:");
        SessionSimulator x = closeOfAnOldStream();
        x.send(0, 1);
        x.send(0, 2);
        x.tick(4);
        Due.packet(x, 1, 0, 4, 2, 0, 2, 1, 2);
        Due.packet(x, 8, 0, 4, 2, 0, 9, 0, 1);
        Due.be("message 1 is behind the close", x.foresee(1), BEHIND_CLOSE);
        Due.deliver(x, 8);
        Due.be("message 1 with 2 = 9 - 7", x.foresee(1), BEHIND_CLOSE);
        x.tick(1);
        Due.packet(x, 10, 0, 4, 2, 0, 11, 0, 1);
        Due.deliver(x, 10);
        Due.be("message 1 with 2 < 11 - 7", x.foresee(1), OLD);
    }

    /**
     * A copy of the hello opens the same session again for the closed endpoint 1, with the same base,
     * as the time is the same. Its new stream goes on behind the close that endpoint 0 has taken.
     */
    private static void againComesBeforeClose() {
        Doc.says("Description", "the first of these that applies:");
        SessionSimulator x = new SessionSimulator();
        x.connect(5);
        x.repeat(0);
        Due.deliver(x, 0, 1, 1, 1);
        x.send(0, 1);
        x.send(0, 2);
        Due.deliver(x, 1, 1, 1, 1);
        x.close(1);
        Due.deliver(x, 1, 1);
        Due.be("numbers 0 to 3 were accepted", x.window(0, 0), 3 * 256 + 15);
        x.close(0);
        Due.deliver(x, 1);
        Due.be("endpoint 1 is closed", x.endpoint(1, 0), 4);
        x.drop(1);
        Due.deliver(x, 0);
        Due.be("endpoint 1 has replied", x.endpoint(1, 0), 2);
        Due.be("the same base", x.endpoint(1, 9), x.endpoint(0, 9));
        x.drop(0);
        x.tick(3);
        Due.deliver(x, 0);
        x.send(1, 7);
        x.send(1, 8);
        x.send(1, 9);
        Due.packet(x, 2, 1, 4, 1, 0, 2, 0);
        Due.packet(x, 3, 1, 4, 1, 0, 3, 1);
        Due.packet(x, 4, 1, 4, 1, 0, 4, 2);
        Due.be("message 0, the number of the close", x.foresee(2), AGAIN);
        Due.be("message 1, behind the close, too", x.foresee(3), AGAIN);
        Due.be("message 2 with a number not accepted yet", x.foresee(4), BEHIND_CLOSE);
    }

    private static void endpoint1TakesHellos() {
        Doc.says("Description", "1: the state of the endpoint does not take the kind: endpoint 1 takes 0 when it"
            + " is idle, has replied or is closed");
        SessionSimulator x = new SessionSimulator();
        x.connect(5);
        x.repeat(0);
        Due.be("idle", x.foresee(0), 0);
        Due.deliver(x, 0);
        Due.be("has replied", x.foresee(0), 0);
        Due.deliver(x, 1, 1);
        Due.be("open", x.foresee(0), STATE);
        foresee(closedWithCopies(), 0, 0);
    }

    private static void endpoint0TakesRepliesAndRefusals() {
        Doc.says("Description", "endpoint 0 takes 1 and 2 when it waits for a reply");
        SessionSimulator x = closedWithCopies();
        foresee(x, STATE, 2);
        x.connect(6);
        x.repeat(11);
        x.alter(12, 70);
        Due.be("a hello with ticket 69", x.deliver(12), TICKET);
        foresee(x, SESSION, 2);
        foresee(x, 0, 12);
        x.repeat(12);
        Due.deliver(x, 12);
        Due.be("idle", x.endpoint(0, 0), 0);
        foresee(x, STATE, 2, 12);
        x.connect(7);
        Due.deliver(x, 13, 13);
        Due.be("open", x.endpoint(0, 0), 3);
        foresee(x, STATE, 2, 12);
    }

    private static void openEndpointsTakeProtectedOnes() {
        Doc.says("Description", "an endpoint that is open takes 3, 4, 5 and 7, and endpoint 0 also 6");
        SessionSimulator x = closedWithCopies();
        x.connect(6);
        Due.deliver(x, 11, 11, 11);
        Due.be("both are open", x.agree(), 1);
        foresee(x, SESSION, 3, 4, 5, 6, 7, 8, 9, 10);
        x = new SessionSimulator();
        x.connect(5);
        Due.deliver(x, 0, 0);
        x.repeat(0);
        Due.deliver(x, 0);
        foresee(x, AGAIN, 0);
        foresee(x, 0, 1);
        x.close(0);
        x.send(1, 3);
        foresee(x, 0, 2, 3);
        Due.deliver(x, 3);
        foresee(x, 0, 3);
    }

    /** A hello of the same nonce, session and time gives the keys once more, with empty windows. */
    private static void repliedAndClosedTakeAllButTickets() {
        Doc.says("Description", "one that has replied or is closed takes 3, 4, 5 and 7");
        SessionSimulator x = closedWithCopies();
        foresee(x, AGAIN, 3, 5, 6, 7, 8, 9, 10);
        foresee(x, STATE, 4);
        Due.deliver(x, 0);
        Due.be("endpoint 1 has replied", x.endpoint(1, 0), 2);
        foresee(x, 0, 2, 4, 6, 7);
        x = closedWithCopies();
        x.connect(6);
        foresee(x, STATE, 4, 6, 9, 10);
        x.repeat(11);
        x.alter(12, 70);
        x.deliver(12);
        Due.deliver(x, 12);
        Due.be("idle", x.endpoint(0, 0), 0);
        foresee(x, STATE, 4, 6, 9, 10);
    }

    private static void sessionOfAnother() {
        Doc.says("Description", "2: the session is not that of the endpoint");
        SessionSimulator x = closedWithCopies();
        x.connect(6);
        Due.be("a reply of session 1 in session 2", x.foresee(2), SESSION);
        Due.deliver(x, 11);
        Due.be("a finish", x.foresee(3), SESSION);
        Due.be("the reply of session 2", x.foresee(11), 0);
        Due.be("delivering it", x.deliver(2), SESSION);
        Due.be("counted", x.results(0, SESSION), 1);
    }

    private static void sessionOfAHello() {
        Doc.says("Description", "the session is not that of the endpoint, unless the kind is 0");
        SessionSimulator x = closedWithCopies();
        x.connect(6);
        Due.deliver(x, 11);
        Due.be("endpoint 1 has session", x.endpoint(1, 1), 2);
        Due.be("a hello of session 1", x.deliver(0), 0);
        Due.be("endpoint 1 has session", x.endpoint(1, 1), 1);
    }

    /** Endpoint 0 resumes with the only ticket, number 0, that was issued at time 0. */
    private static SessionSimulator resumed() {
        SessionSimulator x = Due.opened();
        x.disconnect();
        x.resume(1);
        return x;
    }

    private static void withoutATicket() {
        Doc.says("Description", "8: the kind is 0 and the ticket is not -1");
        SessionSimulator x = resumed();
        Due.be("b", x.alter(0, -1), -1);
        Due.be("no ticket", x.foresee(0), 0);
        Due.be("b", x.alter(0, -1), -2);
        Due.be("a ticket below -1", x.foresee(0), TICKET);
        x = new SessionSimulator();
        x.connect(1);
        Due.be("none was issued yet", x.foresee(0), 0);
    }

    private static void ticketsJustIssuedAndNot() {
        Doc.says("Description", "but no ticket that endpoint 1 has issued");
        SessionSimulator x = new SessionSimulator();
        x.connect(1);
        x.alter(0, 1);
        Due.be("ticket 0 before one is issued", x.foresee(0), TICKET);
        x = resumed();
        Due.be("ticket 0 of one", x.foresee(0), 0);
        x.alter(0, 1);
        Due.be("ticket 1 of one", x.foresee(0), TICKET);
        x.alter(0, 14);
        Due.be("ticket 15 of one", x.foresee(0), TICKET);
        x.alter(0, 1);
        Due.be("ticket 16 of one", x.foresee(0), TICKET);
        x = new SessionSimulator();
        for (int ticket = 0; ticket < 16; ticket++) {
            x.connect(5);
            Due.deliver(x, 0, 0, 0, 0);
            x.disconnect();
        }
        x.resume(1);
        Due.be("ticket 15 of sixteen", x.foresee(0), 0);
        x.alter(0, 1);
        Due.be("ticket 16 of sixteen", x.foresee(0), TICKET);
    }

    private static void ticketUsed() {
        Doc.says("Description", "and that is not used");
        SessionSimulator x = resumed();
        x.repeat(0);
        Due.be("for the first time", x.deliver(0), 0);
        Due.be("for the second time", x.foresee(0), TICKET);
        x = resumed();
        x.repeat(0);
        x.alter(1, 1);
        Due.be("a hello that is refused", x.deliver(1), TICKET);
        Due.be("uses no ticket", x.foresee(0), 0);
    }

    private static void ticketAgeAndLife() {
        Doc.says("Description", "or its age is greater than the ticket life");
        SessionSimulator x = resumed();
        x.configure(6, 9, 50);
        x.tick(50);
        Due.be("50 ticks old, the life is 50", x.foresee(0), 0);
        x.tick(1);
        Due.be("51 ticks old", x.foresee(0), TICKET);
        x = resumed();
        x.tick(20);
        Due.be("20 ticks old, the life is 20", x.foresee(0), 0);
        x.configure(6, 3, 19);
        Due.be("20 ticks old, the life is 19", x.foresee(0), TICKET);
    }

    private static void ticketLife0() {
        Doc.says("Description", "its age is greater than the ticket life");
        SessionSimulator x = resumed();
        x.configure(6, 3, 0);
        Due.be("as young as can be", x.foresee(0), 0);
        x.tick(1);
        Due.be("one tick old", x.foresee(0), TICKET);
    }

    private static void epochsAheadAndBehind() {
        Doc.says("Description", "3: the packet is protected, and its epoch is none from the receiving epoch of"
            + " the endpoint to this plus 2, and not that of the previous window");
        SessionSimulator x = epochs(5);
        foresee(x, 0, 0, 1, 2);
        foresee(x, EPOCH, 3, 4);
        Due.deliver(x, 1);
        Due.be("the receiving epoch", x.endpoint(1, 4), 1);
        Due.be("epoch 0, of the previous window", x.foresee(0), 0);
        Due.be("epoch 3, 2 ahead", x.foresee(2), 0);
        Due.be("epoch 4, 3 ahead", x.foresee(3), EPOCH);
        Due.deliver(x, 1);
        Due.be("the receiving epoch", x.endpoint(1, 4), 2);
        Due.be("epoch 0, behind the previous window", x.foresee(0), EPOCH);
    }

    private static void epochBehindWithoutPrevious() {
        Doc.says("Description", "and not that of the previous window");
        SessionSimulator x = epochs(2);
        Due.deliver(x, 2);
        Due.be("a previous window", x.endpoint(1, 10), 0);
        Due.be("epoch 1, one behind", x.deliver(1), EPOCH);
        Due.be("epoch 0, two behind", x.deliver(0), EPOCH);
        Due.be("counted", x.results(1, EPOCH), 2);
    }

    private static void tagOfEachKind() {
        Doc.says("Description", "4: it is protected, and its tag is not the one that it should have");
        SessionSimulator x = closedWithCopies();
        Due.deliver(x, 0);
        int[] positions = {2, 4, 6, 7};
        for (int position : positions) {
            x.alter(position, 1);
            Due.be("b greater by 1, kind " + x.packet(position, 1), x.foresee(position), TAG);
            x.alter(position, -2);
            Due.be("b less by 1", x.foresee(position), TAG);
            x.alter(position, 1);
        }
        x = new SessionSimulator();
        x.connect(5);
        Due.deliver(x, 0, 0, 0);
        x.alter(0, 1);
        Due.be("a ticket", x.foresee(0), TAG);
        x.alter(0, -1);
        Due.be("as it was", x.foresee(0), 0);
    }

    private static void sevenAndEightBehind() {
        Doc.says("Description", "5: it is protected, and its sequence number is less than the highest accepted one"
            + " of its window minus 7");
        SessionSimulator x = resent(12);
        Due.deliver(x, 10);
        Due.be("the window", x.window(1, 0), 11 * 256 + 1);
        Due.be("4 = 11 - 7", x.foresee(3), 0);
        Due.be("3 = 11 - 8", x.foresee(2), OLD);
        Due.deliver(x, 3);
        Due.be("bit 7 stands for 4", x.window(1, 0), 11 * 256 + 129);
        Due.deliver(x, 9);
        Due.be("5 = 12 - 7", x.foresee(3), 0);
        Due.be("3 = 12 - 9", x.deliver(2), OLD);
        Due.be("counted", x.results(1, OLD), 1);
    }

    private static void emptyWindowHasNoHighest() {
        Doc.says("Description", "its sequence number is less than the highest accepted one of its window minus 7");
        SessionSimulator x = resent(19);
        Due.deliver(x, 18);
        Due.be("the highest number", x.window(1, 0), 19 * 256 + 1);
        x.disconnect();
        x.connect(3);
        Due.deliver(x, 0, 0);
        Due.be("number 0 of the next session", x.deliver(0), 0);
        x = epochs(2);
        x.configure(20, 1, 50);
        x.tick(9);
        Due.packet(x, 11, 0, 4, 1, 2, 9);
        Due.deliver(x, 11);
        Due.be("number 0 of epoch 2", x.foresee(2), OLD);
        x.configure(1, 1, 50);
        x.tick(1);
        Due.deliver(x, x.count(0) - 1);
        Due.be("number 0 of epoch 3 is accepted", x.window(1, 0), 1);
    }

    /** Sequence numbers 1 to 12 of epoch 0, and at position 12 number 0 of epoch 1. */
    private static SessionSimulator twoEpochs() {
        SessionSimulator x = resent(12);
        x.configure(13, 1, 50);
        x.tick(1);
        Due.packet(x, 12, 0, 4, 1, 1, 0);
        return x;
    }

    private static void sevenAndEightBehindInThePreviousWindow() {
        Doc.says("Description", "less than the highest accepted one of its window minus 7");
        SessionSimulator x = twoEpochs();
        Due.deliver(x, 12, 9);
        Due.be("the previous window", x.window(1, 1), 10 * 256 + 1);
        Due.be("the window", x.window(1, 0), 1);
        Due.be("3 = 10 - 7 of epoch 0", x.foresee(2), 0);
        Due.be("2 = 10 - 8 of epoch 0", x.foresee(1), OLD);
    }

    private static void againInTheWindow() {
        Doc.says("Description", "6: it is protected, and its sequence number was accepted in its window already");
        SessionSimulator x = resent(10);
        x.repeat(0);
        x.repeat(7);
        Due.deliver(x, 7);
        Due.deliver(x, 0);
        Due.be("the window", x.window(1, 0), 8 * 256 + 128 + 1);
        Due.packet(x, 9, 0, 4, 1, 0, 8);
        Due.packet(x, 8, 0, 4, 1, 0, 1);
        Due.be("the highest number again", x.deliver(9), AGAIN);
        Due.be("7 less, again", x.deliver(8), AGAIN);
        Due.be("6 less, for the first time", x.foresee(0), 0);
        Due.be("1 more, for the first time", x.foresee(6), 0);
        Due.be("counted", x.results(1, AGAIN), 2);
    }

    private static void againInThePreviousWindow() {
        Doc.says("Description", "its sequence number was accepted in its window already");
        SessionSimulator x = twoEpochs();
        x.repeat(11);
        Due.deliver(x, 11, 11);
        Due.be("the previous window", x.window(1, 1), 12 * 256 + 1);
        Due.packet(x, 11, 0, 4, 1, 0, 12);
        Due.be("12 of epoch 0 again", x.foresee(11), AGAIN);
        Due.be("11 of epoch 0", x.foresee(10), 0);
        x = epochs(1);
        x.repeat(1);
        Due.deliver(x, 1);
        Due.be("0 of epoch 1 again", x.foresee(1), AGAIN);
        Due.be("1 of epoch 0, not in its window", x.foresee(0), 0);
    }

    private static void numberOfTheCloseAndOneMore() {
        Doc.says("Description", "7: the kind is 4 or 7, and the close of the other endpoint has been taken, and the"
            + " number of the message is greater than that of the close");
        SessionSimulator x = closeOfAnOldStream();
        x.send(0, 1);
        x.close(0);
        Due.be("message 0, as the close", x.foresee(0), 0);
        Due.be("a close with number 1", x.foresee(1), BEHIND_CLOSE);
        x.send(1, 5);
        Due.deliver(x, 2);
        Due.packet(x, 2, 0, 5);
        Due.be("an acknowledgement", x.foresee(2), 0);
        Due.be("delivered", x.deliver(1), BEHIND_CLOSE);
        Due.be("counted", x.results(1, BEHIND_CLOSE), 1);
        x = closeOfAnOldStream();
        x.send(0, 1);
        x.send(0, 2);
        Due.be("data with number 1", x.foresee(1), BEHIND_CLOSE);
    }

    private static void numberBehindAnUntakenClose() {
        Doc.says("Description", "and the close of the other endpoint has been taken");
        SessionSimulator x = Due.opened();
        x.send(0, 1);
        x.close(0);
        x.tick(3);
        Due.deliver(x, 1);
        Due.be("the close waits", x.endpoint(1, 7), 1);
        Due.be("message 0, before it", x.foresee(0), 0);
        Due.be("the close itself again", x.foresee(2), 0);
        x = Due.opened();
        x.close(1);
        x.send(0, 1);
        x.send(0, 2);
        Due.be("number 1 behind the close 0 of its own", x.foresee(2), 0);
    }

    private static void acceptedIsZero() {
        Doc.says("Description", "0: it is accepted");
        SessionSimulator x = new SessionSimulator();
        x.connect(5);
        for (int kind : new int[] {0, 1, 3, 6}) {
            Due.be("kind", x.packet(0, 1), kind);
            Due.be("foresee(0)", x.foresee(0), 0);
            Due.be("deliver(0)", x.deliver(0), 0);
        }
        Due.be("accepted by 0", x.results(0, 0), 2);
        Due.be("accepted by 1", x.results(1, 0), 2);
    }

    private static void windowsAtFirst() {
        Doc.says("Description", "An endpoint has a window for its receiving epoch, at first 0, and possibly a"
            + " previous window, for the epoch before.");
        SessionSimulator x = new SessionSimulator();
        for (int e = 0; e <= 1; e++) {
            Due.be("receiving epoch", x.endpoint(e, 4), 0);
            Due.be("has a previous window", x.endpoint(e, 10), 0);
            Due.be("window", x.window(e, 0), -1);
            Due.be("previous window", x.window(e, 1), Due.NONE);
        }
    }

    private static void epochGreaterByOne() {
        Doc.says("Description", "the window becomes the previous one if the epoch is greater by 1");
        SessionSimulator x = epochs(2);
        Due.deliver(x, 0);
        Due.be("the window of epoch 0", x.window(1, 0), 256 + 3);
        Due.deliver(x, 0);
        Due.be("the receiving epoch", x.endpoint(1, 4), 1);
        Due.be("the previous window", x.window(1, 1), 256 + 3);
        Due.deliver(x, 0);
        Due.be("the receiving epoch", x.endpoint(1, 4), 2);
        Due.be("the previous window is that of epoch 1", x.window(1, 1), 1);
    }

    private static void epochGreaterByTwo() {
        Doc.says("Description", "otherwise there is no previous one");
        SessionSimulator x = epochs(3);
        Due.deliver(x, 1);
        Due.be("epoch 0 is the previous one", x.endpoint(1, 10), 1);
        Due.deliver(x, 2);
        Due.be("the receiving epoch", x.endpoint(1, 4), 3);
        Due.be("has a previous window", x.endpoint(1, 10), 0);
        Due.be("previous window", x.window(1, 1), Due.NONE);
    }

    private static void newWindowIsEmpty() {
        Doc.says("Description", "the receiving epoch is that of the packet, its window is empty");
        SessionSimulator x = twoEpochs();
        x.configure(20, 1, 50);
        x.tick(2);
        Due.deliver(x, 10);
        Due.be("the window of epoch 0", x.window(1, 0), 11 * 256 + 1);
        Due.deliver(x, 13);
        Due.be("that of epoch 1 holds number 2 alone", x.window(1, 0), 2 * 256 + 1);
        Due.be("the receiving epoch", x.endpoint(1, 4), 1);
    }

    /** Number 1 of epoch 0 at position 0; numbers 0 to 6 of epoch 1 behind it. */
    private static SessionSimulator furtherPackets() {
        SessionSimulator x = epochs(1);
        x.configure(20, 1, 50);
        x.tick(6);
        Due.packet(x, 7, 0, 4, 1, 1, 6);
        Due.deliver(x, 1);
        Due.be("the receiving epoch", x.endpoint(1, 4), 1);
        return x;
    }

    private static void threeAndFourFurther() {
        Doc.says("Description", "and the previous window is kept until 4 further packets with the receiving epoch"
            + " have been accepted.");
        SessionSimulator x = furtherPackets();
        Due.deliver(x, 1, 1, 1);
        Due.be("after 3", x.endpoint(1, 10), 1);
        Due.be("a packet of epoch 0", x.foresee(0), 0);
        Due.deliver(x, 1);
        Due.be("after 4", x.endpoint(1, 10), 0);
        Due.be("a packet of epoch 0", x.foresee(0), EPOCH);
        x = furtherPackets();
        Due.deliver(x, 1, 1, 0, 1);
        Due.be("after 3, and 1 of the previous epoch", x.endpoint(1, 10), 1);
        x.alter(0, 1);
        Due.be("after 3, and 1 that is not accepted", x.deliver(0), TAG);
        Due.be("kept", x.endpoint(1, 10), 1);
        Due.deliver(x, 0);
        Due.be("after 4", x.endpoint(1, 10), 0);
    }

    private static void fourFurtherAreCountedAnew() {
        Doc.says("Description", "the previous window is kept until 4 further packets with the receiving epoch");
        SessionSimulator x = furtherPackets();
        Due.deliver(x, 1, 1, 1);
        x.configure(1, 1, 50);
        x.tick(1);
        x.configure(20, 1, 50);
        x.tick(4);
        int position = x.count(0) - 5;
        Due.packet(x, position, 0, 4, 1, 2, 0);
        Due.deliver(x, position);
        Due.be("the receiving epoch", x.endpoint(1, 4), 2);
        Due.deliver(x, position, position, position);
        Due.be("after 3 of epoch 2", x.endpoint(1, 10), 1);
        Due.deliver(x, position);
        Due.be("after 4", x.endpoint(1, 10), 0);
    }

    private static void enteredInTheWindowOfItsEpoch() {
        Doc.says("Description", "Then the sequence number is entered in the window of its epoch.");
        SessionSimulator x = furtherPackets();
        Due.deliver(x, 3);
        Due.be("the window", x.window(1, 0), 3 * 256 + 9);
        Due.be("the previous window", x.window(1, 1), 1);
        Due.deliver(x, 0);
        Due.be("the window", x.window(1, 0), 3 * 256 + 9);
        Due.be("the previous window", x.window(1, 1), 256 + 3);
    }
}
