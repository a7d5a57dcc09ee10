import java.math.BigInteger;

/** What it is; Description: Endpoints, Mixing, Packets, Network and Messages. */
final class PacketSentences {
    private static int overflows;
    private static int negatives;

    private PacketSentences() {
    }

    static void all() {
        the512thCall();
        callsBehindThe512th();
        arithmeticOverflows();
        statesOfEndpoints();
        bothAreIdleAtFirst();
        timeIsTheNumberOfTicks();
        mixShiftsZerosIn();
        baseOfLeastAndMostNonces();
        keysByEndpointAndEpoch();
        helloWithAndWithoutATicket();
        replyBearsTheNonce();
        dataBearsLeastAndMostValues();
        ticketsFromTheFirstToTheLast();
        closeBearsItsNumber();
        notMentionedIsZero();
        plainUpToKind2();
        protectedFromKind3();
        sessionBeginsWithEpochAndSequence0();
        sequenceOneBelowTheKeyLimit();
        sequenceAboveTheKeyLimit();
        leastAndMostKeyLimit();
        packetsAreAppended();
        packet24And25();
        withoutRoomNothingIsUsed();
        messagesFromNumber0();
        closeIsTheLast();
        message16And17();
        onlyOpenEndpointsSendWhatIsDue();
        threeMessagesAhead();
        sentOnceAndAtThisTime();
        roomForOneOfTwo();
    }

    private static void the512thCall() {
        Doc.says("What it is", "An object is used for at most 512 calls after it has been made");
        SessionSimulator x = new SessionSimulator();
        x.connect(5);
        int calls = 1 + 4;
        Due.deliver(x, 0, 0, 0, 0);
        for (int i = 0; i < 168; i++) {
            Due.be("send(0, " + i + ")", x.send(0, i), i);
            Due.deliver(x, 0, 0);
            calls += 3;
        }
        Due.be("taken(1, 167) as call 510", x.taken(1, 167), 167);
        Due.be("taken(1, 168) as call 511", x.taken(1, 168), Due.NONE);
        Due.be("endpoint(1, 8) as call 512", x.endpoint(1, 8), 168);
        Due.be("calls", calls + 3, 512);
        SessionSimulator y = new SessionSimulator();
        for (int call = 1; call <= 511; call++) {
            y.tick(50);
        }
        Due.be("count(5) as call 512", y.count(5), 511 * 50);
    }

    /** What they answer is free, but LANGUAGE.md wants that no call ever throws. */
    private static void callsBehindThe512th() {
        Doc.says("What it is", "what later calls answer is free");
        SessionSimulator x = Due.opened();
        String thrown = "";
        try {
            for (int i = 0; i < 20000; i++) {
                x.send(i % 2, 7);
                x.deliver(0);
                x.deliver(i % 3);
                x.tick(50);
                x.taken(i % 2, i);
            }
        } catch (RuntimeException e) {
            thrown = e.toString();
        }
        Due.be("signs of what is thrown: " + thrown, thrown.length(), 0);
    }

    /** mix with numbers of any size, cut to 32 bits as the document says. */
    private static int bigMix(int x, int y) {
        BigInteger whole = BigInteger.valueOf(x).multiply(BigInteger.valueOf(31)).add(BigInteger.valueOf(y));
        BigInteger v = whole.mod(BigInteger.ONE.shiftLeft(32));
        overflows += whole.bitLength() > 31 ? 1 : 0;
        negatives += v.testBit(31) ? 1 : 0;
        return v.xor(v.shiftRight(7)).intValue();
    }

    private static int bigTag(SessionSimulator x, int position, int base) {
        int[] part = new int[9];
        for (int what = 0; what <= 8; what++) {
            part[what] = x.packet(position, what);
        }
        int key = bigMix(bigMix(base, part[3]), part[0]);
        int head = bigMix(bigMix(key, part[4]), bigMix(part[1], part[5]));
        return bigMix(bigMix(head, part[6]), part[7]);
    }

    private static void arithmeticOverflows() {
        Doc.says("Description", "All arithmetic is 32-bit arithmetic with overflow as in Java.");
        SessionSimulator x = new SessionSimulator();
        x.connect(9999);
        Due.deliver(x, 0, 0);
        overflows = 0;
        Due.be("the tag of the finish", x.packet(0, 8), bigTag(x, 0, x.endpoint(0, 9)));
        Due.be("its arithmetic overflows", overflows > 0 ? 1 : 0, 1);
    }

    private static void statesOfEndpoints() {
        Doc.says("Description", "An endpoint is idle (0), waits for a reply (1, only endpoint 0), has replied"
            + " (2, only endpoint 1), is open (3) or closed (4).");
        SessionSimulator x = new SessionSimulator();
        Due.be("idle, idle", states(x), 0);
        x.connect(5);
        Due.be("waits, idle", states(x), 10);
        Due.deliver(x, 0);
        Due.be("waits, has replied", states(x), 12);
        Due.deliver(x, 0);
        Due.be("open, has replied", states(x), 32);
        Due.deliver(x, 0);
        Due.be("open, open", states(x), 33);
        Due.be("closed, closed", states(Due.closed()), 44);
    }

    private static int states(SessionSimulator x) {
        return x.endpoint(0, 0) * 10 + x.endpoint(1, 0);
    }

    private static void bothAreIdleAtFirst() {
        Doc.says("Description", "At first both are idle.");
        Due.be("states of a new one", states(new SessionSimulator()), 0);
    }

    private static void timeIsTheNumberOfTicks() {
        Doc.says("Description", "The time is the number of ticks.");
        SessionSimulator x = new SessionSimulator();
        Due.be("before the first tick", x.count(5), 0);
        x.tick(1);
        Due.be("after it", x.count(5), 1);
        x.tick(50);
        Due.be("after 50 more", x.count(5), 51);
    }

    private static void mixShiftsZerosIn() {
        Doc.says("Description", "mix(x, y) is v ^ (v >>> 7), where v = x * 31 + y.");
        SessionSimulator x = new SessionSimulator();
        x.connect(5);
        Due.deliver(x, 0, 0);
        negatives = 0;
        Due.be("the tag of the finish", x.packet(0, 8), bigTag(x, 0, 10623));
        Due.be("and in numbers", x.packet(0, 8), -1158616526);
        Due.be("some v is negative", negatives > 0 ? 1 : 0, 1);
    }

    private static void baseOfLeastAndMostNonces() {
        Doc.says("Description", "The base of a session with number s and the nonces p of endpoint 0 and q of"
            + " endpoint 1 is mix(mix(p, q), s).");
        SessionSimulator x = new SessionSimulator();
        x.connect(0);
        Due.deliver(x, 0, 0);
        Due.be("mix(mix(0, 31), 1)", x.endpoint(0, 9), 965);
        Due.be("of endpoint 1, too", x.endpoint(1, 9), 965);
        x = new SessionSimulator();
        x.connect(9999);
        Due.deliver(x, 0, 0);
        int q = bigMix(9999, bigMix(1, 0));
        Due.be("with the nonce 9999", x.endpoint(0, 9), bigMix(bigMix(9999, q), 1));
    }

    private static void keysByEndpointAndEpoch() {
        Doc.says("Description", "The key of an endpoint e for an epoch k is mix(mix(base, k), e).");
        SessionSimulator x = Due.opened();
        int base = x.endpoint(0, 9);
        x.send(0, 7);
        x.send(1, 7);
        x.configure(1, 3, 20);
        x.send(0, 7);
        x.send(1, 7);
        int[][] want = {{0, 0, 1}, {1, 0, 1}, {0, 1, 0}, {1, 1, 0}};
        for (int i = 0; i < 4; i++) {
            Due.packet(x, i, want[i][0], 4, 1, want[i][1], want[i][2]);
            Due.be("tag " + i, x.packet(i, 8), bigTag(x, i, base));
        }
    }

    private static void helloWithAndWithoutATicket() {
        Doc.says("Description", "0, hello: a is the nonce, b the ticket or -1");
        SessionSimulator x = new SessionSimulator();
        x.connect(9999);
        Due.packet(x, 0, 0, 0, 1, 0, 0, 9999, -1);
        x = Due.opened();
        x.disconnect();
        x.resume(0);
        Due.packet(x, 0, 0, 0, 2, 0, 0, 0, 0);
    }

    private static void replyBearsTheNonce() {
        Doc.says("Description", "1, reply: a is the nonce");
        SessionSimulator x = new SessionSimulator();
        x.connect(0);
        Due.deliver(x, 0);
        Due.packet(x, 0, 1, 1, 1, 0, 0, 31);
    }

    private static void dataBearsLeastAndMostValues() {
        Doc.says("Description", "4, data: a is the number of a message, b its value");
        SessionSimulator x = Due.opened();
        x.send(0, -999);
        x.send(0, 999);
        Due.packet(x, 0, 0, 4, 1, 0, 1, 0, -999);
        Due.packet(x, 1, 0, 4, 1, 0, 2, 1, 999);
    }

    private static void ticketsFromTheFirstToTheLast() {
        Doc.says("Description", "6, ticket: a is the ticket");
        SessionSimulator x = new SessionSimulator();
        for (int ticket = 0; ticket < 16; ticket++) {
            x.connect(5);
            Due.deliver(x, 0, 0, 0);
            Due.packet(x, 0, 1, 6, ticket + 1, 0, 0, ticket, 0);
            x.disconnect();
        }
    }

    private static void closeBearsItsNumber() {
        Doc.says("Description", "7, close: a is the number of a message");
        SessionSimulator x = Due.opened();
        x.close(1);
        Due.packet(x, 0, 1, 7, 1, 0, 1, 0, 0);
        x.send(0, 3);
        x.close(0);
        Due.packet(x, 2, 0, 7, 1, 0, 2, 1, 0);
    }

    /** Both endpoints have used epochs and expect message 1, before a hello is refused. */
    private static SessionSimulator refusedAfterEpochs() {
        SessionSimulator x = Due.opened();
        x.configure(1, 3, 20);
        x.send(0, 5);
        x.send(1, 6);
        Due.deliver(x, 0, 0, 0, 0);
        x.disconnect();
        x.connect(7);
        x.repeat(0);
        x.repeat(0);
        Due.deliver(x, 0);
        x.alter(0, 90);
        Due.be("a hello with ticket 89", x.deliver(0), 8);
        return x;
    }

    private static void notMentionedIsZero() {
        Doc.says("Description", "What is not mentioned is 0.");
        SessionSimulator x = refusedAfterEpochs();
        Due.be("b of a reply", x.packet(Due.at(x, 1, 1), 6), 0);
        Due.be("a of a refusal", x.packet(Due.at(x, 1, 2), 5), 0);
        Due.be("b of a refusal", x.packet(Due.at(x, 1, 2), 6), 0);
        x = new SessionSimulator();
        x.connect(5);
        Due.deliver(x, 0, 0);
        Due.packet(x, 0, 0, 3, 1, 0, 0, 0, 0);
        Due.deliver(x, 0);
        Due.packet(x, 0, 1, 6, 1, 0, 0, 0, 0);
        x.send(0, 3);
        Due.deliver(x, 1);
        Due.packet(x, 1, 1, 5, 1, 0, 1, 0, 0);
        x.close(1);
        Due.packet(x, 2, 1, 7, 1, 0, 2, 0, 0);
    }

    private static void plainUpToKind2() {
        Doc.says("Description", "Packets of the kinds 0 to 2 are plain: their epoch, sequence number,"
            + " acknowledgement and tag are 0.");
        SessionSimulator x = refusedAfterEpochs();
        for (int kind = 0; kind <= 2; kind++) {
            int position = Due.at(x, kind == 0 ? 0 : 1, kind);
            Due.be("kind", x.packet(position, 1), kind);
            Due.be("epoch of kind " + kind, x.packet(position, 3), 0);
            Due.be("sequence number of kind " + kind, x.packet(position, 4), 0);
            Due.be("acknowledgement of kind " + kind, x.packet(position, 7), 0);
            Due.be("tag of kind " + kind, x.packet(position, 8), 0);
        }
    }

    /** Kind 3 is the least one, and kind 7 the greatest. */
    private static void protectedFromKind3() {
        Doc.says("Description", "The others are protected: the epoch is the sending epoch of the sender, the"
            + " sequence number its next sequence number in this epoch, the acknowledgement the number of"
            + " the message that the sender expects next, and the tag");
        SessionSimulator x = new SessionSimulator();
        x.connect(5);
        Due.deliver(x, 0, 0);
        Due.packet(x, 0, 0, 3, 1, 0, 0, 0, 0, 0, bigTag(x, 0, 10623));
        Due.deliver(x, 0);
        Due.packet(x, 0, 1, 6, 1, 0, 0, 0, 0, 0, bigTag(x, 0, 10623));
        x.send(0, 3);
        Due.deliver(x, 1);
        Due.packet(x, 1, 1, 5, 1, 0, 1, 0, 0, 1, bigTag(x, 1, 10623));
        x.send(1, 4);
        Due.packet(x, 2, 1, 4, 1, 0, 2, 0, 4, 1, bigTag(x, 2, 10623));
        x.configure(3, 3, 20);
        x.close(1);
        Due.packet(x, 3, 1, 7, 1, 1, 0, 1, 0, 1, bigTag(x, 3, 10623));
    }

    private static void sessionBeginsWithEpochAndSequence0() {
        Doc.says("Description", "Each endpoint begins a session with the sending epoch 0 and the sequence number 0");
        SessionSimulator x = Due.opened();
        x.configure(1, 3, 20);
        x.send(0, 5);
        x.send(1, 6);
        Due.packet(x, 0, 0, 4, 1, 1, 0);
        Due.packet(x, 1, 1, 4, 1, 1, 0);
        x.disconnect();
        x.connect(7);
        Due.deliver(x, 0, 0);
        Due.packet(x, 0, 0, 3, 2, 0, 0);
        Due.deliver(x, 0);
        Due.packet(x, 0, 1, 6, 2, 0, 0);
    }

    private static void sequenceOneBelowTheKeyLimit() {
        Doc.says("Description", "when the sequence number to be used is the key limit or greater, the sending"
            + " epoch is increased by 1 first, and the sequence number is 0.");
        SessionSimulator x = Due.opened();
        x.configure(3, 3, 20);
        x.send(0, 1);
        x.send(0, 2);
        Due.packet(x, 1, 0, 4, 1, 0, 2);
        Due.be("sending epoch before number 3", x.endpoint(0, 2), 0);
        Due.be("number 3 would be next", x.endpoint(0, 3), 3);
        x.send(0, 3);
        Due.packet(x, 2, 0, 4, 1, 1, 0);
        Due.be("sending epoch behind it", x.endpoint(0, 2), 1);
        Due.be("number 1 is next", x.endpoint(0, 3), 1);
    }

    private static void sequenceAboveTheKeyLimit() {
        Doc.says("Description", "is the key limit or greater, the sending epoch is increased by 1 first");
        SessionSimulator x = Due.opened();
        x.send(0, 1);
        x.send(0, 2);
        x.send(0, 3);
        x.send(1, 4);
        x.configure(1, 3, 20);
        Due.be("number 4 would be next", x.endpoint(0, 3), 4);
        Due.deliver(x, 3);
        Due.packet(x, 3, 0, 5, 1, 1, 0);
    }

    private static void leastAndMostKeyLimit() {
        Doc.says("Description", "the sending epoch is increased by 1 first, and the sequence number is 0.");
        SessionSimulator x = Due.opened();
        x.configure(1, 1, 20);
        x.send(0, 1);
        x.tick(2);
        for (int i = 0; i < 3; i++) {
            Due.packet(x, i, 0, 4, 1, i + 1, 0);
        }
        x = Due.opened();
        x.configure(20, 1, 20);
        x.send(0, 1);
        x.tick(19);
        Due.packet(x, 18, 0, 4, 1, 0, 19);
        Due.packet(x, 19, 0, 4, 1, 1, 0);
    }

    private static void packetsAreAppended() {
        Doc.says("Description", "The packets in the network stand in a list, to whose end a packet is appended"
            + " when it is sent or repeated.");
        SessionSimulator x = Due.opened();
        x.send(0, 1);
        x.send(1, 2);
        x.repeat(0);
        Due.deliver(x, 0);
        int[][] want = {{1, 4}, {0, 4}, {1, 5}};
        for (int i = 0; i < 3; i++) {
            Due.packet(x, i, want[i]);
        }
        Due.be("three packets", x.count(0), 3);
    }

    private static void packet24And25() {
        Doc.says("Description", "There are at most 24 of them");
        SessionSimulator x = Due.opened();
        x.configure(20, 1, 20);
        x.send(0, 1);
        x.tick(22);
        Due.be("23 packets", x.count(0), 23);
        x.tick(1);
        Due.be("24 packets", x.count(0), 24);
        x.tick(1);
        Due.be("no 25th by sending", x.count(0), 24);
        x.drop(0);
        Due.be("a 24th by repeating", x.repeat(0), 24);
        Due.be("no 25th", x.repeat(0), Due.FULL);
    }

    private static void withoutRoomNothingIsUsed() {
        Doc.says("Description", "a packet for which there is no room is not sent, and uses no sequence number.");
        SessionSimulator x = Due.opened();
        x.send(1, 1);
        Due.fillNetwork(x);
        int sent = x.count(1);
        x.send(0, 5);
        Due.be("packets sent", x.count(1), sent);
        Due.be("packets", x.count(0), 24);
        Due.be("next sequence number", x.endpoint(0, 3), 1);
        Due.be("time of the message", x.kept(0, 0, 3), -1);
        Due.event(x, 0, 0, 1, 4);
        x.drop(0);
        x.tick(1);
        Due.packet(x, 23, 0, 4, 1, 0, 1, 0, 5);
    }

    private static void messagesFromNumber0() {
        Doc.says("Description", "The messages of an endpoint are numbered from 0");
        SessionSimulator x = new SessionSimulator();
        Due.be("first of endpoint 0", x.send(0, 5), 0);
        Due.be("second", x.send(0, 5), 1);
        Due.be("first of endpoint 1", x.send(1, 5), 0);
    }

    private static void closeIsTheLast() {
        Doc.says("Description", "a close is a message, too, the last one.");
        SessionSimulator x = new SessionSimulator();
        x.send(0, 5);
        Due.be("close(0)", x.close(0), 1);
        Due.be("two are kept", x.endpoint(0, 5), 2);
        Due.be("none behind it", x.send(0, 5), Due.STATE);
        Due.be("nor a second close", x.close(0), Due.STATE);
    }

    private static void message16And17() {
        Doc.says("Description", "An endpoint keeps its messages until they are acknowledged, at most 16 of them.");
        SessionSimulator x = Due.opened();
        for (int i = 0; i < 15; i++) {
            x.send(0, i);
        }
        Due.be("the 16th", x.send(0, 15), 15);
        Due.be("16 are kept", x.endpoint(0, 5), 16);
        Due.be("the 17th", x.send(0, 16), Due.FULL);
        Due.deliver(x, 0);
        Due.be("not acknowledged yet", x.send(0, 16), Due.FULL);
        Due.deliver(x, 2);
        Due.be("acknowledged", x.endpoint(0, 5), 15);
        Due.be("room for one", x.send(0, 16), 16);
        Due.be("and no more", x.send(0, 17), Due.FULL);
    }

    private static void onlyOpenEndpointsSendWhatIsDue() {
        Doc.says("Description", "Sending what is due means for an endpoint that is open");
        SessionSimulator x = new SessionSimulator();
        x.send(0, 1);
        x.send(1, 2);
        Due.be("idle", x.count(0), 0);
        x.connect(5);
        x.send(0, 3);
        Due.be("waits", x.count(0), 1);
        Due.deliver(x, 0);
        x.send(1, 4);
        Due.be("has replied", x.count(0), 1);
        Due.deliver(x, 0);
        Due.be("open: the finish and message 3", x.count(0), 2);
        Due.packet(x, 1, 0, 4, 1, 0, 1, 0, 3);
    }

    private static void threeMessagesAhead() {
        Doc.says("Description", "its messages are gone through in ascending order, but only those whose numbers"
            + " are less than that of the lowest kept one plus 3");
        SessionSimulator x = Due.opened();
        for (int i = 0; i < 5; i++) {
            x.send(0, 10 + i);
        }
        Due.be("number 2 is sent", x.kept(0, 2, 3), 0);
        Due.be("number 3 is not", x.kept(0, 3, 3), -1);
        Due.be("three packets", x.count(0), 3);
        Due.deliver(x, 0, 2);
        Due.be("the lowest kept one", x.kept(0, 0, 0), 1);
        Due.be("number 3 is sent", x.kept(0, 2, 3), 0);
        Due.be("number 4 is not", x.kept(0, 3, 3), -1);
        Due.packet(x, 2, 0, 4, 1, 0, 4, 3, 13);
    }

    private static void sentOnceAndAtThisTime() {
        Doc.says("Description", "each that is not sent yet is sent as a packet of kind 4 or 7, and is sent from"
            + " then on, at this time, if there was room for the packet.");
        SessionSimulator x = Due.opened();
        x.send(0, 1);
        x.tick(2);
        x.close(0);
        Due.be("each is sent once", x.count(0), 2);
        Due.be("kinds", x.packet(0, 1) * 10 + x.packet(1, 1), 47);
        Due.be("at time 0", x.kept(0, 0, 3), 0);
        Due.be("at time 2", x.kept(0, 1, 3), 2);
        Due.fillNetwork(x);
        x.tick(1);
        Due.be("without room it is not sent", x.kept(0, 0, 3), -1);
    }

    private static void roomForOneOfTwo() {
        Doc.says("Description", "Otherwise the going through ends.");
        SessionSimulator x = new SessionSimulator();
        x.connect(5);
        x.send(0, 1);
        x.send(0, 2);
        Due.deliver(x, 0);
        Due.fillNetwork(x, 23);
        Due.deliver(x, 0);
        Due.packet(x, 22, 0, 3);
        Due.packet(x, 23, 0, 4, 1, 0, 1, 0, 1);
        Due.be("24 packets", x.count(0), 24);
        Due.be("the lower one is sent", x.kept(0, 0, 3), 0);
        Due.be("the higher one is not", x.kept(0, 1, 3), -1);
        Due.be("and used no sequence number", x.endpoint(0, 3), 2);
    }
}
