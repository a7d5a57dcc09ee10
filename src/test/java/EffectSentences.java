import java.util.ArrayList;
import java.util.List;

/** Description: Effects, Tickets, Ticks and Log. */
final class EffectSentences {
    private EffectSentences() {
    }

    static void all() {
        refusedPacketsHaveNoEffect();
        refusalIsTheOnlyEffect();
        helloWithoutATicket();
        helloWithATicket();
        nonceOfEndpoint1();
        helloBeginsWindowsAndEpochs();
        replyBeginsWindowsAndEpochs();
        replySendsWhatIsDue();
        refusalMakesIdle();
        ticket16And17();
        acknowledgementOfTheNumberBefore();
        acknowledgementOfTheLowest();
        acknowledgementBeyondTheLast();
        finishAndAcknowledgementDoNoMore();
        laterTicketInsteadOfTheEarlier();
        messageIsTakenAndAcknowledged();
        dueAfterAnAcknowledgement();
        dueAfterAFinish();
        closedOnlyWithBothCloses();
        streamBeginsAnew();
        streamBeginsWithoutCloses();
        numberLessThanExpected();
        numberGreaterBy3And4();
        waitsAlready();
        eachNumberWaits();
        gapBehindTheExpected();
        takenIsAppended();
        nothingAfterAClose();
        ticketsFromNumber0();
        ageOfATicket();
        helloAtTheTimeout();
        helloWithoutRoom();
        onlyAWaitingEndpointSendsHellos();
        messagesAtTheTimeout();
        messagesWithoutRoom();
        onlyOpenEndpointsSendAgain();
        endpoint0BeforeEndpoint1();
        event30And31();
        eventsOfEachType();
        deliveryBeforeItsEffects();
    }

    /** All about both endpoints but the counts of results. */
    private static List<Integer> endpoints(SessionSimulator x) {
        List<Integer> all = new ArrayList<>();
        for (int e = 0; e <= 1; e++) {
            for (int what = 0; what <= 11; what++) {
                all.add(x.endpoint(e, what));
            }
            all.add(x.window(e, 0));
            all.add(x.window(e, 1));
            for (int index = 0; index < Math.min(16, x.endpoint(e, 5)); index++) {
                all.add(x.kept(e, index, 3));
            }
        }
        return all;
    }

    private static void noEffect(SessionSimulator x, int position, int result) {
        List<Integer> before = endpoints(x);
        int sent = x.count(1);
        int size = x.count(0);
        int kind = x.packet(position, 1);
        Due.be("result", x.deliver(position), result);
        Due.same("the endpoints after result " + result, endpoints(x), before);
        Due.be("packets sent", x.count(1), sent);
        Due.be("packets", x.count(0), size - 1);
        Due.event(x, 0, 1, kind, result);
    }

    /** Endpoint 0 has sent message 0 with numbers 1 to 12 of epoch 0 and number 0 of epochs 1 to 3. */
    private static SessionSimulator fifteenPackets() {
        SessionSimulator x = Due.opened();
        x.configure(20, 1, 50);
        x.send(0, 1);
        x.tick(11);
        x.configure(1, 1, 50);
        x.tick(3);
        Due.packet(x, 14, 0, 4, 1, 3, 0);
        return x;
    }

    private static void refusedPacketsHaveNoEffect() {
        Doc.says("Description", "An accepted packet has these effects, in this order");
        SessionSimulator x = new SessionSimulator();
        x.connect(5);
        x.repeat(0);
        Due.deliver(x, 0, 1, 1);
        noEffect(x, 0, 1);
        x = fifteenPackets();
        noEffect(x, 14, 3);
        x.alter(13, 1);
        noEffect(x, 13, 4);
        x.repeat(11);
        Due.deliver(x, 11);
        noEffect(x, 12, 6);
        noEffect(x, 0, 5);
        x = sessionOfAnotherReply();
        noEffect(x, 0, 2);
        x = closeOfAnOldStream();
        x.send(0, 7);
        x.send(0, 8);
        noEffect(x, 1, 7);
    }

    /** Endpoint 1 has taken close 0 of a stream that endpoint 0 has left. */
    private static SessionSimulator closeOfAnOldStream() {
        SessionSimulator x = Due.opened();
        x.close(0);
        Due.deliver(x, 0, 0);
        x.disconnect();
        x.connect(2);
        x.alter(0, 1);
        Due.deliver(x, 0, 0, 0, 0);
        return x;
    }

    /** Endpoint 0 waits in session 2, and a reply of session 1 is in the network. */
    private static SessionSimulator sessionOfAnotherReply() {
        SessionSimulator x = new SessionSimulator();
        x.connect(5);
        x.repeat(0);
        Due.deliver(x, 0, 1, 1, 1);
        x.close(0);
        x.close(1);
        Due.deliver(x, 1, 1, 1, 1);
        Due.be("both are closed", x.endpoint(0, 0) * 10 + x.endpoint(1, 0), 44);
        x.connect(6);
        Due.deliver(x, 0);
        x.drop(0);
        Due.packet(x, 0, 1, 1, 1);
        return x;
    }

    private static void refusalIsTheOnlyEffect() {
        Doc.says("Description", "a result 8 has only the effect that endpoint 1 sends a refusal with the session of"
            + " the packet.");
        SessionSimulator x = Due.opened();
        x.send(0, 3);
        x.send(1, 4);
        Due.deliver(x, 0);
        x.disconnect();
        x.resume(1);
        x.alter(0, 5);
        List<Integer> before = endpoints(x);
        int sent = x.count(1);
        Due.be("a hello with ticket 5", x.deliver(0), 8);
        Due.same("the endpoints", endpoints(x), before);
        Due.be("one packet is sent", x.count(1), sent + 1);
        Due.packet(x, 0, 1, 2, 2, 0, 0, 0, 0, 0, 0);
        Due.be("the session of endpoint 1", x.endpoint(1, 1), 1);
        Due.event(x, 1, 1, 0, 8);
        Due.event(x, 0, 0, 1, 2);
    }

    private static void helloWithoutATicket() {
        Doc.says("Description", "0, hello: endpoint 1 takes over the session; without a ticket, its stream begins"
            + " anew");
        SessionSimulator x = Due.opened();
        x.send(0, 3);
        x.send(1, 4);
        Due.deliver(x, 0);
        x.disconnect();
        x.connect(1);
        Due.be("before: session", x.endpoint(1, 1), 1);
        Due.be("before: messages, expected, taken", numbers(x, 1), 111);
        Due.deliver(x, 0);
        Due.be("session", x.endpoint(1, 1), 2);
        Due.be("messages, expected, taken", numbers(x, 1), 0);
    }

    /** The messages that are kept, the number that is expected, and how many were taken. */
    private static int numbers(SessionSimulator x, int e) {
        return x.endpoint(e, 5) * 100 + x.endpoint(e, 6) * 10 + x.endpoint(e, 8);
    }

    private static void helloWithATicket() {
        Doc.says("Description", "and with one, the ticket is used.");
        SessionSimulator x = Due.opened();
        x.send(0, 3);
        x.send(1, 4);
        Due.deliver(x, 0);
        x.disconnect();
        x.resume(1);
        x.repeat(0);
        Due.deliver(x, 0);
        Due.be("session", x.endpoint(1, 1), 2);
        Due.be("messages, expected, taken", numbers(x, 1), 111);
        Due.be("its ticket again", x.foresee(0), 8);
    }

    private static void nonceOfEndpoint1() {
        Doc.says("Description", "Its nonce is mix(a, mix(session, time)).");
        SessionSimulator x = new SessionSimulator();
        x.connect(0);
        Due.deliver(x, 0);
        Due.be("nonce 0, session 1, time 0", x.packet(0, 5), 31);
        x.disconnect();
        x.tick(50);
        x.tick(1);
        x.connect(9999);
        Due.deliver(x, 0);
        Due.be("nonce 9999, session 2, time 51", x.packet(0, 5), Due.mix(9999, Due.mix(2, 51)));
    }

    /** Both endpoints have epochs, previous windows and a message that was sent, and are idle. */
    private static SessionSimulator idleWithEpochs() {
        SessionSimulator x = Due.opened();
        x.configure(1, 3, 20);
        x.send(0, 3);
        x.send(1, 4);
        Due.deliver(x, 0, 0);
        x.disconnect();
        for (int e = 0; e <= 1; e++) {
            Due.be("sending epoch", x.endpoint(e, 2), 2);
            Due.be("next sequence number", x.endpoint(e, 3), 1);
            Due.be("receiving epoch", x.endpoint(e, 4), 1);
            Due.be("has a previous window", x.endpoint(e, 10), 1);
            Due.be("time of the message", x.kept(e, 0, 3), 0);
        }
        x.configure(20, 3, 20);
        return x;
    }

    private static void helloBeginsWindowsAndEpochs() {
        Doc.says("Description", "It has replied, its windows and epochs begin anew, no message of it is sent, and it"
            + " sends a reply.");
        SessionSimulator x = idleWithEpochs();
        x.resume(1);
        Due.deliver(x, 0);
        Due.be("state", x.endpoint(1, 0), 2);
        Due.be("epochs and sequence number", x.endpoint(1, 2) + x.endpoint(1, 3) + x.endpoint(1, 4), 0);
        Due.be("window", x.window(1, 0), -1);
        Due.be("previous window", x.window(1, 1), Due.NONE);
        Due.be("its message is kept", x.kept(1, 0, 1), 4);
        Due.be("and not sent", x.kept(1, 0, 3), -1);
        Due.be("one packet", x.count(0), 1);
        Due.packet(x, 0, 1, 1, 2);
    }

    private static void replyBeginsWindowsAndEpochs() {
        Doc.says("Description", "1, reply: endpoint 0 is open, its windows and epochs begin anew");
        SessionSimulator x = idleWithEpochs();
        x.connect(1);
        Due.deliver(x, 0, 0);
        Due.be("state", x.endpoint(0, 0), 3);
        Due.be("epochs", x.endpoint(0, 2) + x.endpoint(0, 4), 0);
        Due.be("the finish was number 0", x.endpoint(0, 3), 1);
        Due.be("window", x.window(0, 0), -1);
        Due.be("previous window", x.window(0, 1), Due.NONE);
    }

    private static void replySendsWhatIsDue() {
        Doc.says("Description", "no message of it is sent; it sends a finish and then what is due.");
        SessionSimulator x = idleWithEpochs();
        x.tick(2);
        x.resume(1);
        Due.be("sent at", x.kept(0, 0, 3), 0);
        Due.deliver(x, 0, 0);
        Due.be("two packets", x.count(0), 2);
        Due.packet(x, 0, 0, 3, 2, 0, 0);
        Due.packet(x, 1, 0, 4, 2, 0, 1, 0, 3, 1);
        Due.be("sent at", x.kept(0, 0, 3), 2);
    }

    private static void refusalMakesIdle() {
        Doc.says("Description", "2, refusal: endpoint 0 is idle.");
        SessionSimulator x = idleWithEpochs();
        x.tick(21);
        x.resume(1);
        Due.be("the ticket is too old", x.deliver(0), 8);
        Due.be("waits", x.endpoint(0, 0), 1);
        Due.deliver(x, 0);
        Due.be("idle", x.endpoint(0, 0), 0);
        Due.be("nothing is sent", x.count(0), 0);
        Due.be("messages, expected, taken stay", numbers(x, 0), 111);
        Due.event(x, 0, 3, 0, 0);
    }

    private static void ticket16And17() {
        Doc.says("Description", "If endpoint 1 has replied, it is open, and issues a ticket, if it has issued less"
            + " than 16, which it sends.");
        SessionSimulator x = new SessionSimulator();
        for (int session = 1; session <= 17; session++) {
            x.connect(5);
            Due.deliver(x, 0, 0);
            Due.be("has replied", x.endpoint(1, 0), 2);
            Due.deliver(x, 0);
            Due.be("open", x.endpoint(1, 0), 3);
            Due.be("tickets issued in session " + session, x.endpoint(1, 11), Math.min(session, 16));
            Due.be("packets sent in session " + session, x.count(0), session <= 16 ? 1 : 0);
            x.disconnect();
        }
    }

    private static void acknowledgementOfTheNumberBefore() {
        Doc.says("Description", "Messages of the endpoint with numbers less than the acknowledgement are"
            + " acknowledged.");
        SessionSimulator x = Due.opened();
        x.send(0, 1);
        x.send(0, 2);
        x.send(1, 3);
        Due.deliver(x, 2);
        Due.be("an acknowledgement of 0", x.endpoint(0, 5), 2);
        Due.deliver(x, 0);
        Due.packet(x, 2, 1, 5, 1, 0, 2, 0, 0, 1);
        Due.deliver(x, 2);
        Due.be("an acknowledgement of 1", x.endpoint(0, 5), 1);
        Due.be("message 1 is kept", x.kept(0, 0, 0), 1);
    }

    private static void acknowledgementOfTheLowest() {
        Doc.says("Description", "Messages of the endpoint with numbers less than the acknowledgement");
        SessionSimulator x = Due.opened();
        for (int i = 0; i < 5; i++) {
            x.send(0, i);
        }
        Due.deliver(x, 0, 0);
        x.repeat(2);
        Due.deliver(x, 2);
        Due.be("the lowest after an acknowledgement of 2", lowestAndKept(x), 203);
        Due.deliver(x, 1);
        Due.be("after an earlier one, of 1", lowestAndKept(x), 203);
        x.send(1, 9);
        Due.deliver(x, x.count(0) - 1);
        Due.be("after a message with 2 again", lowestAndKept(x), 203);
    }

    private static int lowestAndKept(SessionSimulator x) {
        return x.kept(0, 0, 0) * 100 + x.endpoint(0, 5);
    }

    /** Endpoint 0 begins a new stream, and endpoint 1 expects message 3 of the old one. */
    private static void acknowledgementBeyondTheLast() {
        Doc.says("Description", "Messages of the endpoint with numbers less than the acknowledgement");
        SessionSimulator x = Due.opened();
        for (int i = 0; i < 3; i++) {
            x.send(0, i);
            Due.deliver(x, 0, 0);
        }
        x.disconnect();
        x.connect(2);
        x.alter(0, 1);
        x.send(0, 7);
        Due.deliver(x, 0, 0, 0);
        Due.be("the ticket acknowledges 3", x.packet(Due.at(x, 1, 6), 7), 3);
        Due.deliver(x, Due.at(x, 1, 6));
        Due.be("message 0 is gone", x.endpoint(0, 5), 0);
        Due.be("the next one is number 1", x.send(0, 8), 1);
    }

    private static void finishAndAcknowledgementDoNoMore() {
        Doc.says("Description", "The kinds 3 and 5 have no other effect");
        SessionSimulator x = Due.opened();
        x.send(0, 1);
        Due.deliver(x, 0, 0);
        Due.be("an acknowledgement is not answered", x.count(0), 0);
        Due.be("and is no message", x.endpoint(0, 6), 0);
        x = new SessionSimulator();
        x.connect(5);
        Due.deliver(x, 0, 0, 0);
        Due.be("a finish is answered by a ticket alone", x.count(0), 1);
        Due.be("and is no message", x.endpoint(1, 6), 0);
    }

    private static void laterTicketInsteadOfTheEarlier() {
        Doc.says("Description", "with kind 6, endpoint 0 has the ticket instead of an earlier one.");
        SessionSimulator x = Due.opened();
        Due.be("ticket", x.endpoint(0, 11), 0);
        x.disconnect();
        x.connect(5);
        Due.deliver(x, 0, 0, 0, 0);
        Due.be("ticket", x.endpoint(0, 11), 1);
        x.disconnect();
        x.resume(5);
        Due.packet(x, 0, 0, 0, 3, 0, 0, 5, 1);
        Due.be("it has none then", x.endpoint(0, 11), -1);
    }

    private static void messageIsTakenAndAcknowledged() {
        Doc.says("Description", "With the kinds 4 and 7, a message is taken, and an acknowledgement is sent.");
        SessionSimulator x = Due.opened();
        x.send(0, 5);
        x.close(0);
        Due.deliver(x, 0);
        Due.be("taken", x.taken(1, 0), 5);
        Due.packet(x, 1, 1, 5, 1, 0, 1, 0, 0, 1);
        Due.deliver(x, 0);
        Due.be("expected", x.endpoint(1, 6), 2);
        Due.packet(x, 1, 1, 5, 1, 0, 2, 0, 0, 2);
        Due.be("two packets", x.count(0), 2);
    }

    private static void dueAfterAnAcknowledgement() {
        Doc.says("Description", "Then the endpoint sends what is due.");
        SessionSimulator x = Due.opened();
        for (int i = 0; i < 6; i++) {
            x.send(0, i);
        }
        Due.deliver(x, 0, 0, 0);
        Due.be("three acknowledgements", x.count(0), 3);
        Due.deliver(x, 2);
        Due.be("three messages more", x.count(0), 5);
        Due.packet(x, 2, 0, 4, 1, 0, 4, 3, 3);
        Due.packet(x, 3, 0, 4, 1, 0, 5, 4, 4);
        Due.packet(x, 4, 0, 4, 1, 1, 0, 5, 5);
    }

    private static void dueAfterAFinish() {
        Doc.says("Description", "Then the endpoint sends what is due.");
        SessionSimulator x = new SessionSimulator();
        x.send(1, 9);
        x.connect(5);
        Due.deliver(x, 0);
        x.send(1, 5);
        Due.deliver(x, 0);
        Due.be("the finish", x.count(0), 1);
        Due.deliver(x, 0);
        Due.be("ticket and message", x.count(0), 2);
        Due.packet(x, 0, 1, 6, 1, 0, 0);
        Due.packet(x, 1, 1, 4, 1, 0, 1, 0, 5);
    }

    private static void closedOnlyWithBothCloses() {
        Doc.says("Description", "At last, if it is open, has taken the close of the other one, and its own close is"
            + " acknowledged, it is closed.");
        SessionSimulator x = Due.opened();
        x.close(0);
        Due.deliver(x, 0, 0);
        Due.be("its own close is acknowledged only", x.endpoint(0, 0), 3);
        Due.be("the close of the other is taken only", x.endpoint(1, 0), 3);
        x.close(1);
        Due.be("its close is not acknowledged", x.endpoint(1, 0), 3);
        Due.deliver(x, 0);
        Due.be("both", x.endpoint(0, 0), 4);
        Due.event(x, 1, 0, 0, 5);
        Due.event(x, 0, 3, 0, 4);
        Due.deliver(x, 0);
        Due.be("both", x.endpoint(1, 0), 4);
        x = Due.opened();
        x.close(0);
        x.close(1);
        Due.deliver(x, 0, 0);
        Due.be("taken, and not acknowledged", x.endpoint(0, 0) * 10 + x.endpoint(1, 0), 33);
    }

    private static void streamBeginsAnew() {
        Doc.says("Description", "To begin a stream anew means: the endpoint has no messages and expects number 0, has"
            + " taken none");
        SessionSimulator x = Due.opened();
        x.send(0, 3);
        x.send(1, 4);
        Due.deliver(x, 0, 0);
        Due.be("messages, expected, taken", numbers(x, 0), 111);
        x.disconnect();
        x.connect(1);
        Due.be("messages, expected, taken", numbers(x, 0), 0);
        Due.be("taken(0, 0)", x.taken(0, 0), Due.NONE);
        Due.be("kept(0, 0, 0)", x.kept(0, 0, 0), Due.NONE);
        Due.be("its next message", x.send(0, 5), 0);
        Due.deliver(x, 0);
        Due.be("messages, expected, taken", numbers(x, 1), 0);
        Due.be("taken(1, 0)", x.taken(1, 0), Due.NONE);
        Due.be("its next message", x.send(1, 5), 0);
    }

    private static void streamBeginsWithoutCloses() {
        Doc.says("Description", "and no close, has no close of its own, and has nothing waiting.");
        SessionSimulator x = Due.closed();
        x.connect(6);
        Due.be("no close of endpoint 0", x.send(0, 5), 0);
        Due.deliver(x, 0);
        Due.be("no close of endpoint 1", x.send(1, 6), 0);
        Due.be("nothing waits", x.endpoint(0, 7) + x.endpoint(1, 7), 0);
        Due.deliver(x, 0, 0, 0);
        Due.be("endpoint 1 takes again", x.taken(1, 0), 5);
        Due.deliver(x, 0, 0);
        Due.be("endpoint 0 takes again", x.taken(0, 0), 6);
        x.close(0);
        Due.deliver(x, Due.at(x, 0, 7));
        Due.deliver(x, x.count(0) - 1);
        Due.be("no close of the other was taken", x.endpoint(0, 0), 3);
    }

    private static void numberLessThanExpected() {
        Doc.says("Description", "To take a message means: if its number is less than the expected one, nothing");
        SessionSimulator x = Due.opened();
        x.send(0, 1);
        x.tick(3);
        Due.deliver(x, 0);
        Due.be("expected", x.endpoint(1, 6), 1);
        Due.deliver(x, 0);
        Due.be("expected after number 0 again", x.endpoint(1, 6), 1);
        Due.be("taken", x.endpoint(1, 8), 1);
        Due.be("waits", x.endpoint(1, 7), 0);
    }

    /** Endpoint 1 begins a new stream by an altered hello, and endpoint 0 keeps messages 1 to 4. */
    private static void numberGreaterBy3And4() {
        Doc.says("Description", "if it is greater by 4 or more, nothing; if it is greater, it waits");
        SessionSimulator x = Due.opened();
        for (int i = 0; i < 2; i++) {
            x.send(0, i);
            Due.deliver(x, 0, 0);
        }
        x.disconnect();
        x.resume(1);
        x.alter(0, -1);
        Due.deliver(x, 0, 0, 0, 0);
        Due.be("expected", x.endpoint(1, 6), 0);
        x.send(0, 2);
        x.send(0, 3);
        x.send(0, 4);
        Due.packet(x, 2, 0, 4, 2, 0, 3, 4, 4);
        Due.deliver(x, 2);
        Due.be("number 4 does not wait", x.endpoint(1, 7), 0);
        Due.deliver(x, 1);
        Due.be("number 3 waits", x.endpoint(1, 7), 1);
        Due.deliver(x, 0);
        Due.be("number 2 waits", x.endpoint(1, 7), 2);
        Due.be("expected", x.endpoint(1, 6), 0);
        Due.be("each is acknowledged", x.count(0), 3);
    }

    private static void waitsAlready() {
        Doc.says("Description", "if it is greater, it waits, unless it waits already");
        SessionSimulator x = Due.opened();
        x.send(0, 10);
        x.send(0, 11);
        x.tick(3);
        Due.deliver(x, 1);
        Due.be("waits", x.endpoint(1, 7), 1);
        Due.deliver(x, 2);
        Due.be("waits again", x.endpoint(1, 7), 1);
        Due.deliver(x, 0);
        Due.be("taken", x.endpoint(1, 8), 2);
        Due.be("waits", x.endpoint(1, 7), 0);
    }

    /** Odd and even numbers, beyond those that can be expected and wait at once. */
    private static void eachNumberWaits() {
        Doc.says("Description", "if it is greater, it waits");
        for (int first = 0; first <= 1; first++) {
            SessionSimulator x = Due.opened();
            x.configure(20, 9, 20);
            if (first == 1) {
                x.send(0, 20);
                Due.deliver(x, 0, 0);
            }
            for (int number = first; number < 9; number += 2) {
                pairInWrongOrder(x, number);
            }
        }
    }

    private static void pairInWrongOrder(SessionSimulator x, int number) {
        x.send(0, 20 + number);
        x.send(0, 21 + number);
        Due.deliver(x, 1);
        Due.be("number " + (number + 1) + " waits", x.endpoint(1, 7), 1);
        x.save();
        x.disconnect();
        Due.be("and is discarded by disconnecting", x.endpoint(1, 7), 0);
        x.restore();
        Due.deliver(x, 0);
        Due.be("it is taken in its turn", x.taken(1, number + 1), 21 + number);
        Due.be("none waits", x.endpoint(1, 7), 0);
        Due.deliver(x, 1, 0);
    }

    private static void gapBehindTheExpected() {
        Doc.says("Description", "if it is the expected one, it is taken, and then those that wait, as long as the"
            + " expected one is among them.");
        SessionSimulator x = Due.opened();
        x.send(0, 10);
        x.send(0, 11);
        x.send(0, 12);
        Due.deliver(x, 2);
        Due.be("12 waits", x.endpoint(1, 7), 1);
        Due.deliver(x, 0);
        Due.be("10 is taken alone", x.endpoint(1, 8), 1);
        Due.be("12 waits", x.endpoint(1, 7), 1);
        Due.be("expected", x.endpoint(1, 6), 1);
        Due.deliver(x, 0);
        Due.be("11 and 12 are taken", x.endpoint(1, 8), 3);
        Due.be("11", x.taken(1, 1), 11);
        Due.be("12", x.taken(1, 2), 12);
        Due.be("none waits", x.endpoint(1, 7), 0);
        Due.be("expected", x.endpoint(1, 6), 3);
    }

    private static void takenIsAppended() {
        Doc.says("Description", "A message that is taken is appended to those taken, unless it is a close, and the"
            + " expected number is increased by 1.");
        SessionSimulator x = Due.opened();
        x.send(0, 10);
        x.close(0);
        Due.deliver(x, 0);
        Due.be("taken and expected", x.endpoint(1, 8) * 10 + x.endpoint(1, 6), 11);
        Due.deliver(x, 0);
        Due.be("taken and expected after the close", x.endpoint(1, 8) * 10 + x.endpoint(1, 6), 12);
        Due.be("taken(1, 1)", x.taken(1, 1), Due.NONE);
        x = Due.opened();
        x.close(0);
        Due.deliver(x, 0);
        Due.be("a close alone", x.endpoint(1, 8) * 10 + x.endpoint(1, 6), 1);
    }

    private static void nothingAfterAClose() {
        Doc.says("Description", "After a close, nothing is taken any more.");
        SessionSimulator x = closeOfAnOldStream();
        x.send(0, 7);
        x.send(0, 8);
        Due.deliver(x, 0);
        Due.be("number 1", x.deliver(0), 7);
        Due.be("taken", x.endpoint(1, 8), 0);
        Due.be("expected", x.endpoint(1, 6), 1);
        Due.be("waits", x.endpoint(1, 7), 0);
    }

    private static void ticketsFromNumber0() {
        Doc.says("Description", "Tickets are numbered from 0 as endpoint 1 issues them");
        SessionSimulator x = Due.opened();
        Due.be("the first", x.endpoint(0, 11), 0);
        x.disconnect();
        x.resume(5);
        Due.deliver(x, 0, 0, 0, 0);
        Due.be("the second", x.endpoint(0, 11), 1);
    }

    private static void ageOfATicket() {
        Doc.says("Description", "the age of a ticket is the time minus that at which it was issued.");
        SessionSimulator x = new SessionSimulator();
        x.tick(7);
        x.connect(5);
        Due.deliver(x, 0, 0);
        x.tick(2);
        Due.deliver(x, 0);
        x.tick(2);
        Due.deliver(x, 0);
        x.disconnect();
        x.configure(6, 9, 2);
        x.resume(1);
        Due.be("issued at 9, now it is 11", x.foresee(0), 0);
        x.tick(1);
        Due.be("now it is 12", x.foresee(0), 8);
    }

    private static void helloAtTheTimeout() {
        Doc.says("Description", "if it waits for a reply and its hello was sent at least so many ticks ago as the"
            + " timeout, the hello is sent again");
        for (int timeout = 1; timeout <= 9; timeout += 4) {
            SessionSimulator x = new SessionSimulator();
            x.configure(6, timeout, 20);
            x.tick(3);
            x.connect(5);
            for (int tick = 1; tick <= 2 * timeout; tick++) {
                x.tick(1);
                Due.be("hellos after tick " + tick + ", timeout " + timeout, x.count(0), 1 + tick / timeout);
            }
        }
        SessionSimulator x = new SessionSimulator();
        x.configure(6, 9, 20);
        x.connect(5);
        x.tick(7);
        x.configure(6, 3, 20);
        x.tick(1);
        Due.be("more ticks ago than the timeout", x.count(0), 2);
    }

    private static void helloWithoutRoom() {
        Doc.says("Description", "and was sent at this time then if there was room for the packet");
        SessionSimulator x = new SessionSimulator();
        x.connect(5);
        Due.fillNetwork(x);
        x.tick(3);
        Due.be("no room at the timeout", x.count(1), 1);
        x.drop(0);
        x.tick(1);
        Due.be("sent at the next tick", x.count(1), 2);
        x.drop(0);
        x.tick(2);
        Due.be("2 ticks later", x.count(1), 2);
        x.tick(1);
        Due.be("3 ticks later", x.count(1), 3);
    }

    private static void onlyAWaitingEndpointSendsHellos() {
        Doc.says("Description", "if it waits for a reply and its hello was sent at least so many ticks ago");
        SessionSimulator x = new SessionSimulator();
        x.tick(50);
        Due.be("idle", x.count(1), 0);
        x = Due.opened();
        int sent = x.count(1);
        x.tick(50);
        Due.be("open", x.count(1), sent);
        x.disconnect();
        x.tick(50);
        Due.be("idle again", x.count(1), sent);
        x = Due.closed();
        sent = x.count(1);
        x.tick(50);
        Due.be("closed", x.count(1), sent);
    }

    private static void messagesAtTheTimeout() {
        Doc.says("Description", "if it is open, each of its messages that was sent at least so many ticks ago is not"
            + " sent any more, and it sends what is due.");
        for (int e = 0; e <= 1; e++) {
            for (int timeout = 1; timeout <= 9; timeout += 4) {
                SessionSimulator x = Due.opened();
                x.configure(20, timeout, 20);
                x.send(e, 5);
                for (int tick = 1; tick <= 2 * timeout; tick++) {
                    x.tick(1);
                    Due.be("packets after tick " + tick + ", timeout " + timeout, x.count(0), 1 + tick / timeout);
                    Due.be("sent at", x.kept(e, 0, 3), tick / timeout * timeout);
                }
            }
        }
    }

    private static void messagesWithoutRoom() {
        Doc.says("Description", "each of its messages that was sent at least so many ticks ago is not sent any more");
        SessionSimulator x = Due.opened();
        x.send(0, 5);
        x.tick(1);
        x.send(0, 6);
        Due.fillNetwork(x);
        x.tick(1);
        Due.be("2 ticks ago", x.kept(0, 0, 3), 0);
        x.tick(1);
        Due.be("3 ticks ago", x.kept(0, 0, 3), -1);
        Due.be("the other, 2 ticks ago", x.kept(0, 1, 3), 1);
        x.tick(1);
        Due.be("the other, 3 ticks ago", x.kept(0, 1, 3), -1);
        x.drop(0);
        x.tick(1);
        Due.be("the lower one has the room", x.kept(0, 0, 3), 5);
        Due.be("the other has none", x.kept(0, 1, 3), -1);
    }

    private static void onlyOpenEndpointsSendAgain() {
        Doc.says("Description", "if it is open, each of its messages that was sent");
        SessionSimulator x = Due.opened();
        x.send(0, 5);
        x.send(1, 6);
        x.disconnect();
        x.tick(50);
        Due.be("idle: sent at", x.kept(0, 0, 3), 0);
        Due.be("idle: sent at", x.kept(1, 0, 3), 0);
        Due.be("no packets", x.count(0), 0);
        x.resume(1);
        x.configure(6, 9, 20);
        x.tick(8);
        Due.be("waiting: sent at", x.kept(0, 0, 3), 0);
        Due.be("the hello alone", x.count(0), 1);
    }

    private static void endpoint0BeforeEndpoint1() {
        Doc.says("Description", "With a tick, the time is increased by 1; then for endpoint 0 and after it"
            + " endpoint 1");
        SessionSimulator x = Due.opened();
        x.configure(20, 1, 20);
        x.send(1, 5);
        x.send(0, 6);
        x.tick(2);
        int[] senders = {1, 0, 0, 1, 0, 1};
        for (int i = 0; i < 6; i++) {
            Due.be("sender of packet " + i, x.packet(i, 0), senders[i]);
        }
        Due.be("sent at the increased time", x.kept(0, 0, 3), 2);
        Due.fillNetwork(x);
        x.drop(0);
        x.tick(1);
        Due.be("the only room is for endpoint 0", x.kept(0, 0, 3), 3);
        Due.be("and none for endpoint 1", x.kept(1, 0, 3), -1);
    }

    private static void event30And31() {
        Doc.says("Description", "The latest 30 events are kept.");
        SessionSimulator x = new SessionSimulator();
        x.connect(5);
        x.repeat(0);
        for (int i = 0; i < 27; i++) {
            x.repeat(0);
            x.drop(1);
        }
        Due.be("29 events", x.event(28, 0), 3);
        Due.be("no 30th", x.event(29, 0), Due.NONE);
        x.repeat(0);
        x.drop(1);
        Due.event(x, 29, 3, 0, 1);
        Due.be("no 31st", x.event(30, 0), Due.NONE);
        x.repeat(0);
        x.drop(1);
        Due.event(x, 29, 0, 0, 0);
        Due.event(x, 28, 2, 0, 0);
        Due.be("the 31st is gone", x.event(30, 0), Due.NONE);
        x.deliver(0);
        Due.event(x, 29, 2, 0, 0);
        Due.event(x, 2, 1, 0, 0);
        Due.event(x, 0, 0, 1, 1);
    }

    private static void eventsOfEachType() {
        Doc.says("Description", "An event has a type and two numbers: a packet was sent (type 0: its sender, its"
            + " kind), a packet was delivered (1: its kind, the result), a packet was dropped by drop (2: its"
            + " sender, its kind), or the state of an endpoint changed (3: the endpoint, the new state).");
        SessionSimulator x = Due.opened();
        x.send(1, 5);
        Due.event(x, 0, 0, 1, 4);
        x.repeat(0);
        x.repeat(0);
        x.drop(2);
        Due.event(x, 0, 2, 1, 4);
        Due.deliver(x, 0);
        x.deliver(0);
        Due.event(x, 0, 1, 4, 6);
        x.disconnect();
        Due.event(x, 1, 3, 0, 0);
        Due.event(x, 0, 3, 1, 0);
        x.connect(5);
        x.disconnect();
        Due.event(x, 0, 3, 0, 0);
        Due.event(x, 1, 0, 0, 0);
        Due.be("packets lost by disconnecting are dropped without an event", x.count(3), 3);
    }

    private static void deliveryBeforeItsEffects() {
        Doc.says("Description", "The event of a delivery comes before those of its effects.");
        SessionSimulator x = new SessionSimulator();
        x.connect(5);
        Due.deliver(x, 0);
        Due.event(x, 2, 1, 0, 0);
        Due.event(x, 1, 3, 1, 2);
        Due.event(x, 0, 0, 1, 1);
        x.disconnect();
        x.connect(7);
        x.alter(0, 40);
        x.deliver(0);
        Due.event(x, 1, 1, 0, 8);
        Due.event(x, 0, 0, 1, 2);
    }
}
