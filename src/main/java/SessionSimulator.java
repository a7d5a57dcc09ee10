/**
 * A simulator of a session layer: two endpoints shake hands, exchange numbered messages over a
 * network that loses, repeats, reorders and alters packets as it is told to, change keys by
 * counts, filter replayed packets, resume sessions with tickets, and close in order.
 */
public final class SessionSimulator {
    public static final int NONE = -1000000001;
    public static final int BAD_ARGUMENT = -1000000002;
    public static final int FULL = -1000000003;
    public static final int STATE = -1000000004;

    private static final int IDLE = 0;
    private static final int WAITING = 1;
    private static final int REPLIED = 2;
    private static final int OPEN = 3;
    private static final int CLOSED = 4;

    private static final int HELLO = 0;
    private static final int REPLY = 1;
    private static final int REFUSAL = 2;
    private static final int FINISH = 3;
    private static final int DATA = 4;
    private static final int ACKNOWLEDGEMENT = 5;
    private static final int TICKET = 6;
    private static final int CLOSE = 7;

    private static final int ACCEPTED = 0;
    private static final int WRONG_STATE = 1;
    private static final int WRONG_SESSION = 2;
    private static final int WRONG_EPOCH = 3;
    private static final int WRONG_TAG = 4;
    private static final int TOO_OLD = 5;
    private static final int REPLAYED = 6;
    private static final int AFTER_CLOSE = 7;
    private static final int BAD_TICKET = 8;
    private static final int RESULTS = 9;

    private static final int SENT_EVENT = 0;
    private static final int DELIVERED_EVENT = 1;
    private static final int DROPPED_EVENT = 2;
    private static final int STATE_EVENT = 3;

    private static final int MAX_KEY_LIMIT = 20;
    private static final int MAX_TIMEOUT = 9;
    private static final int MAX_LIFE = 50;
    private static final int MAX_NONCE = 9999;
    private static final int MAX_VALUE = 999;
    private static final int MAX_DELTA = 99;
    private static final int MAX_TICKS = 50;
    private static final int MAX_PACKETS = 24;
    private static final int MAX_KEPT = 16;
    private static final int MAX_TICKETS = 16;
    private static final int MAX_EVENTS = 30;
    private static final int MAX_TEXT = 40;
    private static final int MAX_CODE = 127;
    /** A message needs a call that sends it, and an object is used for at most 512 calls. */
    private static final int MAX_TAKEN = 512;

    private static final int SEND_AHEAD = 3;
    /** A power of two, so that the numbers within reach have slots of their own by their low bits. */
    private static final int REACH = 4;
    private static final int EPOCHS_AHEAD = 2;
    private static final int WINDOW_SPAN = 7;
    private static final int WINDOW_BITS = 255;
    private static final int PREVIOUS_PACKETS = 4;

    private static final int NO_TICKET = -1;
    private static final int NO_CLOSE = -1;
    private static final int NOT_SENT = -1;
    private static final int EMPTY_WINDOW = -1;
    private static final int END_OF_TEXT = -1;
    private static final int SYNTAX_ERROR = -2000;

    private final World world = new World();
    private final World snapshot = new World();
    private final Script script = new Script();
    /** The packet being delivered: its place in the network may be filled anew by its effects. */
    private final Packet arrived = new Packet();
    private boolean hasSnapshot;

    public SessionSimulator() {
        hasSnapshot = false;
    }

    public int configure(int keyLimit, int timeout, int life) {
        if (keyLimit < 1 || keyLimit > MAX_KEY_LIMIT || timeout < 1 || timeout > MAX_TIMEOUT
                || life < 0 || life > MAX_LIFE) {
            return BAD_ARGUMENT;
        }
        int previous = 1000 * world.keyLimit + 100 * world.timeout + world.life;
        world.keyLimit = keyLimit;
        world.timeout = timeout;
        world.life = life;
        return previous;
    }

    public int connect(int nonce) {
        Endpoint first = world.first;
        if (nonce < 0 || nonce > MAX_NONCE) {
            return BAD_ARGUMENT;
        }
        if (first.state != IDLE && first.state != CLOSED) {
            return STATE;
        }
        if (world.network.isFull()) {
            return FULL;
        }
        first.beginStream();
        beginSession(nonce, NO_TICKET);
        return world.sessionNumber;
    }

    public int resume(int nonce) {
        Endpoint first = world.first;
        if (nonce < 0 || nonce > MAX_NONCE) {
            return BAD_ARGUMENT;
        }
        if (first.state != IDLE) {
            return STATE;
        }
        if (first.ticket == NO_TICKET) {
            return NONE;
        }
        if (world.network.isFull()) {
            return FULL;
        }
        int ticket = first.ticket;
        first.ticket = NO_TICKET;
        beginSession(nonce, ticket);
        return world.sessionNumber;
    }

    public int disconnect() {
        int lost = world.network.size;
        world.network.size = 0;
        world.droppedCount += lost;
        breakOff(world.first);
        breakOff(world.second);
        return lost;
    }

    public int send(int endpoint, int value) {
        if (!isEndpoint(endpoint) || value < -MAX_VALUE || value > MAX_VALUE) {
            return BAD_ARGUMENT;
        }
        return addMessage(endpointOf(endpoint), value, false);
    }

    public int close(int endpoint) {
        if (!isEndpoint(endpoint)) {
            return BAD_ARGUMENT;
        }
        return addMessage(endpointOf(endpoint), 0, true);
    }

    public int deliver(int position) {
        Packet packet = world.network.at(position);
        if (packet == null) {
            return NONE;
        }
        arrived.copyFrom(packet);
        world.network.remove(position);
        Endpoint receiver = endpointOf(1 - arrived.sender);
        int result = resultOf(arrived, receiver);
        receiver.countResult(result);
        world.deliveredCount++;
        world.log.add(DELIVERED_EVENT, arrived.kind, result);
        if (result == BAD_TICKET) {
            sendPlain(receiver, REFUSAL, arrived.session, 0, 0);
        } else if (result == ACCEPTED && arrived.isProtected()) {
            acceptProtected(receiver, arrived);
        } else if (result == ACCEPTED) {
            acceptPlain(receiver, arrived);
        }
        return result;
    }

    public int foresee(int position) {
        Packet packet = world.network.at(position);
        if (packet == null) {
            return NONE;
        }
        return resultOf(packet, endpointOf(1 - packet.sender));
    }

    public int drop(int position) {
        Packet packet = world.network.at(position);
        if (packet == null) {
            return NONE;
        }
        world.droppedCount++;
        world.log.add(DROPPED_EVENT, packet.sender, packet.kind);
        world.network.remove(position);
        return world.network.size;
    }

    public int repeat(int position) {
        Packet packet = world.network.at(position);
        if (packet == null) {
            return NONE;
        }
        Packet copy = world.network.extend();
        if (copy == null) {
            return FULL;
        }
        copy.copyFrom(packet);
        world.repeatedCount++;
        return world.network.size;
    }

    public int alter(int position, int delta) {
        Packet packet = world.network.at(position);
        if (packet == null) {
            return NONE;
        }
        if (delta < -MAX_DELTA || delta > MAX_DELTA) {
            return BAD_ARGUMENT;
        }
        packet.b += delta;
        return packet.b;
    }

    public int tick(int count) {
        if (count < 1 || count > MAX_TICKS) {
            return BAD_ARGUMENT;
        }
        for (int i = 0; i < count; i++) {
            world.time++;
            repeatHello();
            resendLateMessages(world.first);
            resendLateMessages(world.second);
        }
        return world.time;
    }

    public int packet(int position, int what) {
        Packet packet = world.network.at(position);
        if (packet == null) {
            return NONE;
        }
        return packet.part(what);
    }

    public int endpoint(int endpoint, int what) {
        if (!isEndpoint(endpoint)) {
            return BAD_ARGUMENT;
        }
        if (endpoint == 1 && what == 11) {
            return world.tickets.issued;
        }
        return endpointOf(endpoint).part(what);
    }

    public int window(int endpoint, int previous) {
        if (!isEndpoint(endpoint) || previous < 0 || previous > 1) {
            return BAD_ARGUMENT;
        }
        Endpoint holder = endpointOf(endpoint);
        if (previous == 0) {
            return holder.window.asNumber();
        }
        return holder.hasPrevious ? holder.previous.asNumber() : NONE;
    }

    public int taken(int endpoint, int index) {
        if (!isEndpoint(endpoint)) {
            return NONE;
        }
        return endpointOf(endpoint).inbox.valueAt(index);
    }

    public int kept(int endpoint, int index, int what) {
        if (!isEndpoint(endpoint)) {
            return NONE;
        }
        return endpointOf(endpoint).outbox.part(index, what);
    }

    public int results(int endpoint, int result) {
        if (!isEndpoint(endpoint) || result < 0 || result >= RESULTS) {
            return BAD_ARGUMENT;
        }
        return endpointOf(endpoint).resultCounts[result];
    }

    public int count(int what) {
        switch (what) {
            case 0: return world.network.size;
            case 1: return world.sentCount;
            case 2: return world.deliveredCount;
            case 3: return world.droppedCount;
            case 4: return world.repeatedCount;
            case 5: return world.time;
            case 6: return script.length;
            case 7: return world.sessionNumber;
            default: return BAD_ARGUMENT;
        }
    }

    public int event(int index, int what) {
        return world.log.part(index, what);
    }

    public int agree() {
        Endpoint first = world.first;
        Endpoint second = world.second;
        boolean bothOpen = first.state == OPEN && second.state == OPEN;
        return bothOpen && first.session == second.session && first.base == second.base ? 1 : 0;
    }

    public int append(int code, int count) {
        if (code < 0 || code > MAX_CODE || count < 1 || count > MAX_TEXT) {
            return BAD_ARGUMENT;
        }
        if (script.length + count > MAX_TEXT) {
            return FULL;
        }
        script.extend(code, count);
        return script.length;
    }

    public int runScript() {
        boolean isScript = script.parse();
        script.length = 0;
        if (!isScript) {
            return SYNTAX_ERROR - script.cursor;
        }
        for (int done = 0; done < script.actions && done < MAX_TEXT; done++) {
            int number = script.numbers[done];
            int answer;
            switch (script.codes[done]) {
                case 'd': answer = deliver(number); break;
                case 'x': answer = drop(number); break;
                case 'u': answer = repeat(number); break;
                case 's': answer = send(script.endpoints[done], number); break;
                default: answer = number == 0 ? world.time : tick(number);
            }
            if (isError(answer)) {
                return done;
            }
        }
        return script.actions;
    }

    public int save() {
        snapshot.copyFrom(world);
        hasSnapshot = true;
        return world.network.size;
    }

    public int restore() {
        if (!hasSnapshot) {
            return NONE;
        }
        world.copyFrom(snapshot);
        return world.network.size;
    }

    private static boolean isEndpoint(int endpoint) {
        return endpoint == 0 || endpoint == 1;
    }

    /** NONE is a plain answer: a script goes on after it. */
    private static boolean isError(int answer) {
        return answer == BAD_ARGUMENT || answer == FULL || answer == STATE;
    }

    private static int mix(int x, int y) {
        int v = x * 31 + y;
        return v ^ (v >>> 7);
    }

    private static int baseOf(int firstNonce, int secondNonce, int session) {
        return mix(mix(firstNonce, secondNonce), session);
    }

    private static int tagOf(Packet packet, int base) {
        int key = mix(mix(base, packet.epoch), packet.sender);
        int head = mix(mix(key, packet.sequence), mix(packet.kind, packet.a));
        return mix(mix(head, packet.b), packet.acknowledgement);
    }

    private Endpoint endpointOf(int number) {
        return number == 0 ? world.first : world.second;
    }

    private void changeState(Endpoint endpoint, int state) {
        if (endpoint.state != state) {
            endpoint.state = state;
            world.log.add(STATE_EVENT, endpoint.number, state);
        }
    }

    private void beginSession(int nonce, int ticket) {
        Endpoint first = world.first;
        world.sessionNumber++;
        first.session = world.sessionNumber;
        first.helloNonce = nonce;
        first.helloTicket = ticket;
        changeState(first, WAITING);
        sendHello();
    }

    private void breakOff(Endpoint endpoint) {
        if (endpoint.state != CLOSED) {
            changeState(endpoint, IDLE);
        }
        endpoint.inbox.discardWaiting();
    }

    private int addMessage(Endpoint endpoint, int value, boolean isClose) {
        Outbox outbox = endpoint.outbox;
        if (outbox.closeNumber != NO_CLOSE || endpoint.state == CLOSED) {
            return STATE;
        }
        if (outbox.isFull()) {
            return FULL;
        }
        int number = outbox.add(value, isClose);
        sendDue(endpoint);
        return number;
    }

    private void sendHello() {
        Endpoint first = world.first;
        if (sendPlain(first, HELLO, first.session, first.helloNonce, first.helloTicket)) {
            first.helloTime = world.time;
        }
    }

    /** Answers whether there was room for the packet. */
    private boolean sendPlain(Endpoint sender, int kind, int session, int a, int b) {
        Packet packet = world.network.extend();
        if (packet == null) {
            return false;
        }
        packet.fill(sender.number, kind, session, a, b);
        noteSent(packet);
        return true;
    }

    /** Answers whether there was room for the packet; without room, no sequence number is used. */
    private boolean sendProtected(Endpoint sender, int kind, int a, int b) {
        Packet packet = world.network.extend();
        if (packet == null) {
            return false;
        }
        if (sender.nextSequence >= world.keyLimit) {
            sender.sendingEpoch++;
            sender.nextSequence = 0;
        }
        packet.fill(sender.number, kind, sender.session, a, b);
        packet.epoch = sender.sendingEpoch;
        packet.sequence = sender.nextSequence;
        packet.acknowledgement = sender.inbox.expected;
        packet.tag = tagOf(packet, sender.base);
        sender.nextSequence++;
        noteSent(packet);
        return true;
    }

    private void noteSent(Packet packet) {
        world.sentCount++;
        world.log.add(SENT_EVENT, packet.sender, packet.kind);
    }

    private void sendDue(Endpoint sender) {
        if (sender.state != OPEN) {
            return;
        }
        Outbox outbox = sender.outbox;
        for (int i = 0; i < outbox.size && i < SEND_AHEAD; i++) {
            if (outbox.sentTimes[i] == NOT_SENT) {
                int kind = outbox.isClose(i) ? CLOSE : DATA;
                if (!sendProtected(sender, kind, outbox.lowest + i, outbox.values[i])) {
                    return;
                }
                outbox.sentTimes[i] = world.time;
            }
        }
    }

    private void repeatHello() {
        Endpoint first = world.first;
        if (first.state == WAITING && world.time - first.helloTime >= world.timeout) {
            sendHello();
        }
    }

    private void resendLateMessages(Endpoint endpoint) {
        if (endpoint.state == OPEN) {
            endpoint.outbox.forgetSentUntil(world.time - world.timeout);
            sendDue(endpoint);
        }
    }

    private int resultOf(Packet packet, Endpoint receiver) {
        if (!receiver.takesKind(packet.kind)) {
            return WRONG_STATE;
        }
        if (packet.kind == HELLO) {
            return isRefused(packet.b) ? BAD_TICKET : ACCEPTED;
        }
        if (packet.session != receiver.session) {
            return WRONG_SESSION;
        }
        return packet.isProtected() ? protectedResultOf(packet, receiver) : ACCEPTED;
    }

    private boolean isRefused(int ticket) {
        return ticket != NO_TICKET && !world.tickets.isValid(ticket, world.time, world.life);
    }

    private int protectedResultOf(Packet packet, Endpoint receiver) {
        if (!receiver.takesEpoch(packet.epoch)) {
            return WRONG_EPOCH;
        }
        if (packet.tag != tagOf(packet, receiver.base)) {
            return WRONG_TAG;
        }
        if (packet.epoch <= receiver.receivingEpoch) {
            Window window = receiver.windowOf(packet.epoch);
            if (window.isBehind(packet.sequence)) {
                return TOO_OLD;
            }
            if (window.holds(packet.sequence)) {
                return REPLAYED;
            }
        }
        return packet.bringsMessage() && receiver.inbox.isAfterClose(packet.a) ? AFTER_CLOSE : ACCEPTED;
    }

    private void acceptPlain(Endpoint receiver, Packet packet) {
        if (packet.kind == HELLO) {
            acceptHello(receiver, packet);
        } else if (packet.kind == REPLY) {
            acceptReply(receiver, packet);
        } else {
            changeState(receiver, IDLE);
        }
    }

    private void acceptHello(Endpoint second, Packet hello) {
        second.session = hello.session;
        if (hello.b == NO_TICKET) {
            second.beginStream();
        } else {
            world.tickets.use(hello.b);
        }
        int nonce = mix(hello.a, mix(hello.session, world.time));
        second.base = baseOf(hello.a, nonce, hello.session);
        changeState(second, REPLIED);
        second.beginKeys();
        sendPlain(second, REPLY, second.session, nonce, 0);
    }

    private void acceptReply(Endpoint first, Packet reply) {
        first.base = baseOf(first.helloNonce, reply.a, first.session);
        changeState(first, OPEN);
        first.beginKeys();
        sendProtected(first, FINISH, 0, 0);
        sendDue(first);
    }

    private void acceptProtected(Endpoint receiver, Packet packet) {
        receiver.enterInWindow(packet.epoch, packet.sequence);
        if (receiver.state == REPLIED) {
            changeState(receiver, OPEN);
            issueTicket(receiver);
        }
        receiver.outbox.acknowledge(packet.acknowledgement);
        if (packet.kind == TICKET) {
            receiver.ticket = packet.a;
        } else if (packet.bringsMessage()) {
            receiver.inbox.take(packet.a, packet.b, packet.kind == CLOSE);
            sendProtected(receiver, ACKNOWLEDGEMENT, 0, 0);
        }
        sendDue(receiver);
        if (receiver.state == OPEN && receiver.hasEnded()) {
            changeState(receiver, CLOSED);
        }
    }

    private void issueTicket(Endpoint second) {
        if (world.tickets.issued < MAX_TICKETS) {
            int ticket = world.tickets.issue(world.time);
            sendProtected(second, TICKET, ticket, 0);
        }
    }

    /** All that a snapshot holds: everything but the text. */
    private static final class World {
        final Endpoint first = new Endpoint(0);
        final Endpoint second = new Endpoint(1);
        final Network network = new Network();
        final Tickets tickets = new Tickets();
        final Log log = new Log();
        int keyLimit = 6;
        int timeout = 3;
        int life = 20;
        int time;
        int sessionNumber;
        int sentCount;
        int deliveredCount;
        int droppedCount;
        int repeatedCount;

        void copyFrom(World other) {
            first.copyFrom(other.first);
            second.copyFrom(other.second);
            network.copyFrom(other.network);
            tickets.copyFrom(other.tickets);
            log.copyFrom(other.log);
            keyLimit = other.keyLimit;
            timeout = other.timeout;
            life = other.life;
            time = other.time;
            sessionNumber = other.sessionNumber;
            sentCount = other.sentCount;
            deliveredCount = other.deliveredCount;
            droppedCount = other.droppedCount;
            repeatedCount = other.repeatedCount;
        }
    }

    private static final class Packet {
        int sender;
        int kind;
        int session;
        int epoch;
        int sequence;
        int a;
        int b;
        int acknowledgement;
        int tag;

        /** Packets are used again, so the parts of an earlier protected one are cleared. */
        void fill(int newSender, int newKind, int newSession, int newA, int newB) {
            sender = newSender;
            kind = newKind;
            session = newSession;
            epoch = 0;
            sequence = 0;
            a = newA;
            b = newB;
            acknowledgement = 0;
            tag = 0;
        }

        void copyFrom(Packet other) {
            sender = other.sender;
            kind = other.kind;
            session = other.session;
            epoch = other.epoch;
            sequence = other.sequence;
            a = other.a;
            b = other.b;
            acknowledgement = other.acknowledgement;
            tag = other.tag;
        }

        boolean isProtected() {
            return kind >= FINISH;
        }

        boolean bringsMessage() {
            return kind == DATA || kind == CLOSE;
        }

        int part(int what) {
            switch (what) {
                case 0: return sender;
                case 1: return kind;
                case 2: return session;
                case 3: return epoch;
                case 4: return sequence;
                case 5: return a;
                case 6: return b;
                case 7: return acknowledgement;
                case 8: return tag;
                default: return BAD_ARGUMENT;
            }
        }
    }

    private static final class Network {
        final Packet[] packets = new Packet[MAX_PACKETS];
        int size;

        Network() {
            for (int i = 0; i < MAX_PACKETS; i++) {
                packets[i] = new Packet();
            }
        }

        boolean isFull() {
            return size >= MAX_PACKETS;
        }

        /** Answers null if there is no such packet. */
        Packet at(int position) {
            if (position < 0 || position >= size || position >= MAX_PACKETS) {
                return null;
            }
            return packets[position];
        }

        /** Answers the new last packet, which is to be filled, or null if there is no room. */
        Packet extend() {
            if (size < 0 || size >= MAX_PACKETS) {
                return null;
            }
            size++;
            return packets[size - 1];
        }

        /** Keeps the removed packet behind the list, so that none has to be made again. */
        void remove(int position) {
            if (position < 0 || position >= size || size > MAX_PACKETS) {
                return;
            }
            Packet removed = packets[position];
            for (int i = position; i < size - 1; i++) {
                packets[i] = packets[i + 1];
            }
            packets[size - 1] = removed;
            size--;
        }

        void copyFrom(Network other) {
            size = other.size;
            for (int i = 0; i < MAX_PACKETS; i++) {
                packets[i].copyFrom(other.packets[i]);
            }
        }
    }

    private static final class Endpoint {
        final int number;
        final int[] resultCounts = new int[RESULTS];
        final Outbox outbox = new Outbox();
        final Inbox inbox = new Inbox();
        final Window window = new Window();
        final Window previous = new Window();
        boolean hasPrevious;
        int previousPacketsLeft;
        int state = IDLE;
        int session;
        int base;
        int sendingEpoch;
        int nextSequence;
        int receivingEpoch;
        int ticket = NO_TICKET;
        int helloNonce;
        int helloTicket = NO_TICKET;
        int helloTime;

        Endpoint(int ownNumber) {
            number = ownNumber;
        }

        void copyFrom(Endpoint other) {
            System.arraycopy(other.resultCounts, 0, resultCounts, 0, RESULTS);
            outbox.copyFrom(other.outbox);
            inbox.copyFrom(other.inbox);
            window.copyFrom(other.window);
            previous.copyFrom(other.previous);
            hasPrevious = other.hasPrevious;
            previousPacketsLeft = other.previousPacketsLeft;
            state = other.state;
            session = other.session;
            base = other.base;
            sendingEpoch = other.sendingEpoch;
            nextSequence = other.nextSequence;
            receivingEpoch = other.receivingEpoch;
            ticket = other.ticket;
            helloNonce = other.helloNonce;
            helloTicket = other.helloTicket;
            helloTime = other.helloTime;
        }

        void beginStream() {
            outbox.begin();
            inbox.begin();
        }

        /** With new keys, what was sent under the old ones counts as not sent. */
        void beginKeys() {
            sendingEpoch = 0;
            nextSequence = 0;
            receivingEpoch = 0;
            window.clear();
            hasPrevious = false;
            outbox.forgetSent();
        }

        void countResult(int result) {
            if (result >= 0 && result < RESULTS) {
                resultCounts[result]++;
            }
        }

        boolean takesKind(int kind) {
            switch (kind) {
                case HELLO: return number == 1 && (state == IDLE || state == REPLIED || state == CLOSED);
                case REPLY:
                case REFUSAL: return number == 0 && state == WAITING;
                case TICKET: return number == 0 && state == OPEN;
                default: return state == OPEN || state == REPLIED || state == CLOSED;
            }
        }

        boolean takesEpoch(int epoch) {
            int ahead = epoch - receivingEpoch;
            return ahead >= 0 && ahead <= EPOCHS_AHEAD || hasPrevious && ahead == -1;
        }

        Window windowOf(int epoch) {
            return epoch == receivingEpoch ? window : previous;
        }

        void enterInWindow(int epoch, int sequence) {
            if (epoch > receivingEpoch) {
                hasPrevious = epoch - receivingEpoch == 1;
                previous.copyFrom(window);
                previousPacketsLeft = PREVIOUS_PACKETS;
                receivingEpoch = epoch;
                window.clear();
            } else if (epoch == receivingEpoch && hasPrevious) {
                previousPacketsLeft--;
                hasPrevious = previousPacketsLeft > 0;
            }
            windowOf(epoch).enter(sequence);
        }

        boolean hasEnded() {
            return inbox.closeNumber != NO_CLOSE && outbox.isCloseAcknowledged();
        }

        int part(int what) {
            switch (what) {
                case 0: return state;
                case 1: return session;
                case 2: return sendingEpoch;
                case 3: return nextSequence;
                case 4: return receivingEpoch;
                case 5: return outbox.size;
                case 6: return inbox.expected;
                case 7: return inbox.waitingCount();
                case 8: return inbox.takenCount;
                case 9: return base;
                case 10: return hasPrevious ? 1 : 0;
                case 11: return ticket;
                default: return BAD_ARGUMENT;
            }
        }
    }

    /** The accepted sequence numbers of an epoch; bit i of the set stands for the highest minus i. */
    private static final class Window {
        int highest;
        int set;

        void clear() {
            highest = 0;
            set = 0;
        }

        void copyFrom(Window other) {
            highest = other.highest;
            set = other.set;
        }

        boolean isBehind(int sequence) {
            return set != 0 && sequence < highest - WINDOW_SPAN;
        }

        boolean holds(int sequence) {
            int behind = highest - sequence;
            return behind >= 0 && behind <= WINDOW_SPAN && (set >>> behind & 1) == 1;
        }

        void enter(int sequence) {
            int behind = highest - sequence;
            if (set == 0 || behind < -WINDOW_SPAN) {
                highest = sequence;
                set = 1;
            } else if (behind < 0) {
                highest = sequence;
                set = (set << -behind | 1) & WINDOW_BITS;
            } else if (behind <= WINDOW_SPAN) {
                set |= 1 << behind;
            }
        }

        int asNumber() {
            return set == 0 ? EMPTY_WINDOW : highest * 256 + set;
        }
    }

    /** The messages that an endpoint keeps; their numbers follow each other from the lowest. */
    private static final class Outbox {
        final int[] values = new int[MAX_KEPT];
        final int[] sentTimes = new int[MAX_KEPT];
        int size;
        int lowest;
        int closeNumber = NO_CLOSE;

        void begin() {
            size = 0;
            lowest = 0;
            closeNumber = NO_CLOSE;
        }

        void copyFrom(Outbox other) {
            System.arraycopy(other.values, 0, values, 0, MAX_KEPT);
            System.arraycopy(other.sentTimes, 0, sentTimes, 0, MAX_KEPT);
            size = other.size;
            lowest = other.lowest;
            closeNumber = other.closeNumber;
        }

        boolean isFull() {
            return size >= MAX_KEPT;
        }

        boolean isClose(int index) {
            return closeNumber != NO_CLOSE && lowest + index == closeNumber;
        }

        boolean isCloseAcknowledged() {
            return closeNumber != NO_CLOSE && lowest > closeNumber;
        }

        int add(int value, boolean isClose) {
            if (size < 0 || size >= MAX_KEPT) {
                return FULL;
            }
            int number = lowest + size;
            values[size] = value;
            sentTimes[size] = NOT_SENT;
            size++;
            if (isClose) {
                closeNumber = number;
            }
            return number;
        }

        void acknowledge(int acknowledgement) {
            int gone = Math.min(acknowledgement - lowest, size);
            if (gone <= 0) {
                return;
            }
            for (int i = gone; i < size && i < MAX_KEPT; i++) {
                values[i - gone] = values[i];
                sentTimes[i - gone] = sentTimes[i];
            }
            size -= gone;
            lowest += gone;
        }

        void forgetSent() {
            for (int i = 0; i < MAX_KEPT; i++) {
                sentTimes[i] = NOT_SENT;
            }
        }

        void forgetSentUntil(int time) {
            for (int i = 0; i < MAX_KEPT; i++) {
                if (sentTimes[i] <= time) {
                    sentTimes[i] = NOT_SENT;
                }
            }
        }

        int part(int index, int what) {
            if (index < 0 || index >= size || index >= MAX_KEPT) {
                return NONE;
            }
            switch (what) {
                case 0: return lowest + index;
                case 1: return values[index];
                case 2: return isClose(index) ? 1 : 0;
                case 3: return sentTimes[index];
                default: return BAD_ARGUMENT;
            }
        }
    }

    /** What an endpoint has taken, and what waits for its turn in the slot of its number. */
    private static final class Inbox {
        final int[] takenValues = new int[MAX_TAKEN];
        final boolean[] waits = new boolean[REACH];
        final boolean[] waitingCloses = new boolean[REACH];
        final int[] waitingValues = new int[REACH];
        int takenCount;
        int expected;
        int closeNumber = NO_CLOSE;

        void begin() {
            takenCount = 0;
            expected = 0;
            closeNumber = NO_CLOSE;
            discardWaiting();
        }

        void copyFrom(Inbox other) {
            System.arraycopy(other.takenValues, 0, takenValues, 0, MAX_TAKEN);
            for (int i = 0; i < REACH; i++) {
                waits[i] = other.waits[i];
                waitingCloses[i] = other.waitingCloses[i];
                waitingValues[i] = other.waitingValues[i];
            }
            takenCount = other.takenCount;
            expected = other.expected;
            closeNumber = other.closeNumber;
        }

        void discardWaiting() {
            for (int i = 0; i < REACH; i++) {
                waits[i] = false;
            }
        }

        int waitingCount() {
            int count = 0;
            for (int i = 0; i < REACH; i++) {
                count += waits[i] ? 1 : 0;
            }
            return count;
        }

        boolean isAfterClose(int number) {
            return closeNumber != NO_CLOSE && number > closeNumber;
        }

        /** The expected message goes through its slot, too: then all are taken in one way. */
        void take(int number, int value, boolean isClose) {
            if (closeNumber != NO_CLOSE || number < expected || number >= expected + REACH) {
                return;
            }
            int slot = number & (REACH - 1);
            if (!waits[slot]) {
                waits[slot] = true;
                waitingValues[slot] = value;
                waitingCloses[slot] = isClose;
            }
            for (int i = 0; i < REACH && closeNumber == NO_CLOSE && waits[expected & (REACH - 1)]; i++) {
                takeExpected(expected & (REACH - 1));
            }
        }

        void takeExpected(int slot) {
            if (waitingCloses[slot]) {
                closeNumber = expected;
            } else if (takenCount < MAX_TAKEN) {
                takenValues[takenCount] = waitingValues[slot];
                takenCount++;
            }
            waits[slot] = false;
            expected++;
        }

        int valueAt(int index) {
            if (index < 0 || index >= takenCount || index >= MAX_TAKEN) {
                return NONE;
            }
            return takenValues[index];
        }
    }

    private static final class Tickets {
        final int[] issueTimes = new int[MAX_TICKETS];
        final boolean[] used = new boolean[MAX_TICKETS];
        int issued;

        void copyFrom(Tickets other) {
            for (int i = 0; i < MAX_TICKETS; i++) {
                issueTimes[i] = other.issueTimes[i];
                used[i] = other.used[i];
            }
            issued = other.issued;
        }

        boolean isIssued(int ticket) {
            return ticket >= 0 && ticket < issued && ticket < MAX_TICKETS;
        }

        boolean isValid(int ticket, int time, int life) {
            return isIssued(ticket) && !used[ticket] && time - issueTimes[ticket] <= life;
        }

        int issue(int time) {
            if (issued < 0 || issued >= MAX_TICKETS) {
                return NO_TICKET;
            }
            int ticket = issued;
            issueTimes[ticket] = time;
            issued++;
            return ticket;
        }

        void use(int ticket) {
            if (isIssued(ticket)) {
                used[ticket] = true;
            }
        }
    }

    /** The latest events in a ring, so that a new one takes the place of the oldest. */
    private static final class Log {
        final int[] types = new int[MAX_EVENTS];
        final int[] firsts = new int[MAX_EVENTS];
        final int[] seconds = new int[MAX_EVENTS];
        int size;
        int latest = MAX_EVENTS - 1;

        void add(int type, int first, int second) {
            latest = latest >= 0 && latest < MAX_EVENTS - 1 ? latest + 1 : 0;
            types[latest] = type;
            firsts[latest] = first;
            seconds[latest] = second;
            if (size < MAX_EVENTS) {
                size++;
            }
        }

        void copyFrom(Log other) {
            System.arraycopy(other.types, 0, types, 0, MAX_EVENTS);
            System.arraycopy(other.firsts, 0, firsts, 0, MAX_EVENTS);
            System.arraycopy(other.seconds, 0, seconds, 0, MAX_EVENTS);
            size = other.size;
            latest = other.latest;
        }

        int part(int index, int what) {
            if (index < 0 || index >= size) {
                return NONE;
            }
            int place = Math.floorMod(latest - index, MAX_EVENTS);
            switch (what) {
                case 0: return types[place];
                case 1: return firsts[place];
                case 2: return seconds[place];
                default: return BAD_ARGUMENT;
            }
        }
    }

    /** The text, and the actions that were found in it. */
    private static final class Script {
        final int[] text = new int[MAX_TEXT];
        final int[] codes = new int[MAX_TEXT];
        final int[] endpoints = new int[MAX_TEXT];
        final int[] numbers = new int[MAX_TEXT];
        int length;
        int actions;
        /** After a failed parse, this is the error offset. */
        int cursor;

        void extend(int code, int count) {
            for (int i = 0; i < count && length >= 0 && length < MAX_TEXT; i++) {
                text[length] = code;
                length++;
            }
        }

        boolean parse() {
            cursor = 0;
            actions = 0;
            for (int i = 0; i < MAX_TEXT && readAction(); i++) {
                if (cursor == length) {
                    return true;
                }
                if (here() != ';') {
                    return false;
                }
                cursor++;
            }
            return false;
        }

        boolean readAction() {
            int code = here();
            if (code != 'd' && code != 'x' && code != 'u' && code != 't' && code != 's') {
                return false;
            }
            cursor++;
            int endpoint = 0;
            if (code == 's') {
                if (here() != '0' && here() != '1') {
                    return false;
                }
                endpoint = readDigit();
            }
            int number = 1;
            if (isDigit()) {
                number = readNumber();
            } else if (code != 't') {
                return false;
            }
            addAction(code, endpoint, number);
            return true;
        }

        int readNumber() {
            int number = readDigit();
            return isDigit() ? number * 10 + readDigit() : number;
        }

        int readDigit() {
            int digit = here() - '0';
            cursor++;
            return digit;
        }

        boolean isDigit() {
            return here() >= '0' && here() <= '9';
        }

        int here() {
            if (cursor < 0 || cursor >= length || cursor >= MAX_TEXT) {
                return END_OF_TEXT;
            }
            return text[cursor];
        }

        void addAction(int code, int endpoint, int number) {
            if (actions >= 0 && actions < MAX_TEXT) {
                codes[actions] = code;
                endpoints[actions] = endpoint;
                numbers[actions] = number;
                actions++;
            }
        }
    }
}
