import java.util.ArrayList;
import java.util.List;
import java.util.TreeMap;
import java.util.TreeSet;

/**
 * A second reading of the document, with lists, sets and maps, and without care for speed: a
 * snapshot is the list of the calls that led to it, and restoring makes them all again.
 */
final class Model {
    static final int NONE = -1000000001;
    static final int BAD = -1000000002;
    static final int FULL = -1000000003;
    static final int STATE = -1000000004;

    interface Step {
        int on(Core core);
    }

    Core core = new Core();
    private List<Step> steps = new ArrayList<>();
    private List<Step> saved = null;
    private String text = "";

    int act(Step step) {
        steps.add(step);
        return step.on(core);
    }

    int save() {
        saved = new ArrayList<>(steps);
        return core.network.size();
    }

    int restore() {
        if (saved == null) {
            return NONE;
        }
        core = new Core();
        for (Step step : saved) {
            step.on(core);
        }
        steps = new ArrayList<>(saved);
        return core.network.size();
    }

    int append(int code, int count) {
        if (code < 0 || code > 127 || count < 1 || count > 40) {
            return BAD;
        }
        if (text.length() + count > 40) {
            return FULL;
        }
        text += String.valueOf((char) code).repeat(count);
        return text.length();
    }

    int characters() {
        return text.length();
    }

    int runScript() {
        String script = text;
        text = "";
        int offset = errorOffset(script);
        if (offset >= 0) {
            return -2000 - offset;
        }
        int done = 0;
        for (String action : script.split(";")) {
            int answer = perform(action);
            if (answer == BAD || answer == FULL || answer == STATE) {
                return done;
            }
            done++;
        }
        return done;
    }

    /** The longest beginning that can be continued to a script ends before the error. */
    static int errorOffset(String script) {
        String action = "([dxu][0-9]{1,2}|t[0-9]{0,2}|s[01][0-9]{1,2})";
        if (script.matches(action + "(;" + action + ")*")) {
            return -1;
        }
        String begun = "([dxu]?|[dxu][0-9]{1,2}|t[0-9]{0,2}|s|s[01]|s[01][0-9]{1,2})";
        int offset = 0;
        while (offset < script.length()
                && script.substring(0, offset + 1).matches("(" + action + ";)*" + begun)) {
            offset++;
        }
        return offset;
    }

    private int perform(String action) {
        char code = action.charAt(0);
        String rest = action.substring(1);
        int number = rest.isEmpty() ? 1 : Integer.parseInt(code == 's' ? rest.substring(1) : rest);
        if (code == 'd') {
            return act(c -> c.deliver(number));
        }
        if (code == 'x') {
            return act(c -> c.drop(number));
        }
        if (code == 'u') {
            return act(c -> c.repeat(number));
        }
        if (code == 's') {
            int endpoint = rest.charAt(0) - '0';
            return act(c -> c.send(endpoint, number));
        }
        return number == 0 ? 0 : act(c -> c.tick(number));
    }

    static final class Pack {
        int sender;
        int kind;
        int session;
        int epoch;
        int sequence;
        int a;
        int b;
        int ack;
        int tag;

        Pack copy() {
            Pack p = new Pack();
            p.sender = sender;
            p.kind = kind;
            p.session = session;
            p.epoch = epoch;
            p.sequence = sequence;
            p.a = a;
            p.b = b;
            p.ack = ack;
            p.tag = tag;
            return p;
        }
    }

    static final class Message {
        int number;
        int value;
        boolean close;
        int sentAt = -1;
    }

    static final class End {
        int id;
        int state;
        int session;
        int base;
        int sendEpoch;
        int sequence;
        int receiveEpoch;
        TreeSet<Integer> window = new TreeSet<>();
        TreeSet<Integer> previous = null;
        int further;
        List<Message> messages = new ArrayList<>();
        int nextNumber;
        boolean ownClose;
        int expects;
        List<Integer> taken = new ArrayList<>();
        Integer closeTaken = null;
        TreeMap<Integer, Message> waiting = new TreeMap<>();
        int[] results = new int[9];

        void beginStream() {
            messages.clear();
            nextNumber = 0;
            ownClose = false;
            expects = 0;
            taken.clear();
            closeTaken = null;
            waiting.clear();
        }

        void beginWindowsAndEpochs() {
            sendEpoch = 0;
            sequence = 0;
            receiveEpoch = 0;
            window = new TreeSet<>();
            previous = null;
            for (Message m : messages) {
                m.sentAt = -1;
            }
        }
    }

    /** Everything but the text. */
    static final class Core {
        int keyLimit = 6;
        int timeout = 3;
        int life = 20;
        int time;
        int sessions;
        End[] ends = {new End(), new End()};
        List<Pack> network = new ArrayList<>();
        List<int[]> log = new ArrayList<>();
        List<Integer> ticketTimes = new ArrayList<>();
        TreeSet<Integer> unused = new TreeSet<>();
        int sent;
        int delivered;
        int dropped;
        int repeated;
        Integer ticket = null;
        Pack hello = null;
        int helloAt;

        Core() {
            ends[1].id = 1;
        }

        static int mix(int x, int y) {
            int v = x * 31 + y;
            return v ^ (v >>> 7);
        }

        static int tag(Pack p, int base) {
            int key = mix(mix(base, p.epoch), p.sender);
            return mix(mix(mix(mix(key, p.sequence), mix(p.kind, p.a)), p.b), p.ack);
        }

        private boolean none(int position) {
            return position < 0 || position >= network.size();
        }

        private void state(End e, int state) {
            if (e.state != state) {
                e.state = state;
                log.add(new int[] {3, e.id, state});
            }
        }

        private boolean put(Pack p) {
            if (network.size() == 24) {
                return false;
            }
            network.add(p);
            sent++;
            log.add(new int[] {0, p.sender, p.kind});
            return true;
        }

        private Pack plain(End sender, int kind, int session, int a, int b) {
            Pack p = new Pack();
            p.sender = sender.id;
            p.kind = kind;
            p.session = session;
            p.a = a;
            p.b = b;
            return p;
        }

        private boolean sendProtected(End e, int kind, int a, int b) {
            Pack p = plain(e, kind, e.session, a, b);
            boolean nextEpoch = e.sequence >= keyLimit;
            p.epoch = nextEpoch ? e.sendEpoch + 1 : e.sendEpoch;
            p.sequence = nextEpoch ? 0 : e.sequence;
            p.ack = e.expects;
            p.tag = tag(p, e.base);
            if (!put(p)) {
                return false;
            }
            e.sendEpoch = p.epoch;
            e.sequence = p.sequence + 1;
            return true;
        }

        private void sendDue(End e) {
            if (e.state != 3 || e.messages.isEmpty()) {
                return;
            }
            int bound = e.messages.get(0).number + 3;
            for (Message m : e.messages) {
                if (m.number >= bound) {
                    return;
                }
                if (m.sentAt < 0) {
                    if (!sendProtected(e, m.close ? 7 : 4, m.number, m.value)) {
                        return;
                    }
                    m.sentAt = time;
                }
            }
        }

        int configure(int k, int t, int l) {
            if (k < 1 || k > 20 || t < 1 || t > 9 || l < 0 || l > 50) {
                return BAD;
            }
            int before = keyLimit * 1000 + timeout * 100 + life;
            keyLimit = k;
            timeout = t;
            life = l;
            return before;
        }

        int connect(int nonce) {
            if (nonce < 0 || nonce > 9999) {
                return BAD;
            }
            if (ends[0].state != 0 && ends[0].state != 4) {
                return STATE;
            }
            if (network.size() == 24) {
                return FULL;
            }
            ends[0].beginStream();
            return begin(nonce, -1);
        }

        int resume(int nonce) {
            if (nonce < 0 || nonce > 9999) {
                return BAD;
            }
            if (ends[0].state != 0) {
                return STATE;
            }
            if (ticket == null) {
                return NONE;
            }
            if (network.size() == 24) {
                return FULL;
            }
            int t = ticket;
            ticket = null;
            return begin(nonce, t);
        }

        private int begin(int nonce, int b) {
            sessions++;
            ends[0].session = sessions;
            hello = plain(ends[0], 0, sessions, nonce, b);
            state(ends[0], 1);
            put(hello.copy());
            helloAt = time;
            return sessions;
        }

        int disconnect() {
            int n = network.size();
            network.clear();
            dropped += n;
            for (End e : ends) {
                if (e.state != 4) {
                    state(e, 0);
                }
                e.waiting.clear();
            }
            return n;
        }

        int send(int e, int value) {
            if (e < 0 || e > 1 || value < -999 || value > 999) {
                return BAD;
            }
            return add(ends[e], value, false);
        }

        int close(int e) {
            return e < 0 || e > 1 ? BAD : add(ends[e], 0, true);
        }

        private int add(End e, int value, boolean close) {
            if (e.ownClose || e.state == 4) {
                return STATE;
            }
            if (e.messages.size() == 16) {
                return FULL;
            }
            Message m = new Message();
            m.number = e.nextNumber++;
            m.value = value;
            m.close = close;
            e.messages.add(m);
            e.ownClose = close;
            sendDue(e);
            return m.number;
        }

        int foresee(int position) {
            if (none(position)) {
                return NONE;
            }
            Pack p = network.get(position);
            return result(p, ends[1 - p.sender]);
        }

        private int result(Pack p, End e) {
            List<Integer> takes = new ArrayList<>();
            if (e.id == 1 && (e.state == 0 || e.state == 2 || e.state == 4)) {
                takes.add(0);
            }
            if (e.id == 0 && e.state == 1) {
                takes.addAll(List.of(1, 2));
            }
            if (e.state == 3 || e.state == 2 || e.state == 4) {
                takes.addAll(List.of(3, 4, 5, 7));
            }
            if (e.id == 0 && e.state == 3) {
                takes.add(6);
            }
            if (!takes.contains(p.kind)) {
                return 1;
            }
            if (p.kind != 0 && p.session != e.session) {
                return 2;
            }
            if (p.kind == 0 && p.b != -1 && (!unused.contains(p.b) || time - ticketTimes.get(p.b) > life)) {
                return 8;
            }
            return p.kind <= 2 ? 0 : protectedResult(p, e);
        }

        private int protectedResult(Pack p, End e) {
            boolean near = p.epoch >= e.receiveEpoch && p.epoch <= e.receiveEpoch + 2;
            if (!near && !(e.previous != null && p.epoch == e.receiveEpoch - 1)) {
                return 3;
            }
            if (p.tag != tag(p, e.base)) {
                return 4;
            }
            if (p.epoch <= e.receiveEpoch) {
                TreeSet<Integer> window = p.epoch == e.receiveEpoch ? e.window : e.previous;
                if (!window.isEmpty() && p.sequence < window.last() - 7) {
                    return 5;
                }
                if (window.contains(p.sequence)) {
                    return 6;
                }
            }
            boolean message = p.kind == 4 || p.kind == 7;
            return message && e.closeTaken != null && p.a > e.closeTaken ? 7 : 0;
        }

        int deliver(int position) {
            if (none(position)) {
                return NONE;
            }
            Pack p = network.remove(position);
            End e = ends[1 - p.sender];
            int result = result(p, e);
            delivered++;
            e.results[result]++;
            log.add(new int[] {1, p.kind, result});
            if (result == 8) {
                put(plain(e, 2, p.session, 0, 0));
            }
            if (result == 0) {
                effects(p, e);
            }
            return result;
        }

        private void effects(Pack p, End e) {
            if (p.kind == 0) {
                e.session = p.session;
                if (p.b == -1) {
                    e.beginStream();
                } else {
                    unused.remove(p.b);
                }
                int nonce = mix(p.a, mix(p.session, time));
                e.base = mix(mix(p.a, nonce), p.session);
                state(e, 2);
                e.beginWindowsAndEpochs();
                put(plain(e, 1, p.session, nonce, 0));
            } else if (p.kind == 1) {
                e.base = mix(mix(hello.a, p.a), p.session);
                state(e, 3);
                e.beginWindowsAndEpochs();
                sendProtected(e, 3, 0, 0);
                sendDue(e);
            } else if (p.kind == 2) {
                state(e, 0);
            } else {
                protectedEffects(p, e);
            }
        }

        private void protectedEffects(Pack p, End e) {
            if (p.epoch > e.receiveEpoch) {
                e.previous = p.epoch == e.receiveEpoch + 1 ? e.window : null;
                e.further = 0;
                e.receiveEpoch = p.epoch;
                e.window = new TreeSet<>();
            } else if (p.epoch == e.receiveEpoch) {
                e.further++;
                if (e.further == 4) {
                    e.previous = null;
                }
            }
            (p.epoch == e.receiveEpoch ? e.window : e.previous).add(p.sequence);
            if (e.state == 2) {
                state(e, 3);
                if (ticketTimes.size() < 16) {
                    unused.add(ticketTimes.size());
                    ticketTimes.add(time);
                    sendProtected(e, 6, ticketTimes.size() - 1, 0);
                }
            }
            e.messages.removeIf(m -> m.number < p.ack);
            if (p.kind == 6) {
                ticket = p.a;
            }
            if (p.kind == 4 || p.kind == 7) {
                take(p, e);
                sendProtected(e, 5, 0, 0);
            }
            sendDue(e);
            boolean acknowledged = e.ownClose && e.messages.isEmpty();
            if (e.state == 3 && e.closeTaken != null && acknowledged) {
                state(e, 4);
            }
        }

        private void take(Pack p, End e) {
            if (p.a < e.expects || p.a >= e.expects + 4 || e.closeTaken != null) {
                return;
            }
            Message m = new Message();
            m.number = p.a;
            m.value = p.b;
            m.close = p.kind == 7;
            e.waiting.putIfAbsent(m.number, m);
            while (e.closeTaken == null && e.waiting.containsKey(e.expects)) {
                Message next = e.waiting.remove(e.expects);
                if (next.close) {
                    e.closeTaken = next.number;
                } else {
                    e.taken.add(next.value);
                }
                e.expects++;
            }
        }

        int drop(int position) {
            if (none(position)) {
                return NONE;
            }
            Pack p = network.remove(position);
            dropped++;
            log.add(new int[] {2, p.sender, p.kind});
            return network.size();
        }

        int repeat(int position) {
            if (none(position)) {
                return NONE;
            }
            if (network.size() == 24) {
                return FULL;
            }
            network.add(network.get(position).copy());
            repeated++;
            return network.size();
        }

        int alter(int position, int delta) {
            if (none(position)) {
                return NONE;
            }
            if (delta < -99 || delta > 99) {
                return BAD;
            }
            network.get(position).b += delta;
            return network.get(position).b;
        }

        int tick(int count) {
            if (count < 1 || count > 50) {
                return BAD;
            }
            for (int i = 0; i < count; i++) {
                time++;
                if (ends[0].state == 1 && time - helloAt >= timeout && put(hello.copy())) {
                    helloAt = time;
                }
                for (End e : ends) {
                    if (e.state == 3) {
                        for (Message m : e.messages) {
                            m.sentAt = m.sentAt >= 0 && time - m.sentAt >= timeout ? -1 : m.sentAt;
                        }
                        sendDue(e);
                    }
                }
            }
            return time;
        }

        int packet(int position, int what) {
            if (none(position)) {
                return NONE;
            }
            Pack p = network.get(position);
            int[] parts = {p.sender, p.kind, p.session, p.epoch, p.sequence, p.a, p.b, p.ack, p.tag};
            return what < 0 || what > 8 ? BAD : parts[what];
        }

        int endpoint(int id, int what) {
            if (id < 0 || id > 1 || what < 0 || what > 11) {
                return BAD;
            }
            End e = ends[id];
            int own = ticket == null ? -1 : ticket;
            int[] parts = {e.state, e.session, e.sendEpoch, e.sequence, e.receiveEpoch,
                e.messages.size(), e.expects, e.waiting.size(), e.taken.size(), e.base,
                e.previous == null ? 0 : 1, id == 0 ? own : ticketTimes.size()};
            return parts[what];
        }

        int window(int id, int previous) {
            if (id < 0 || id > 1 || previous < 0 || previous > 1) {
                return BAD;
            }
            TreeSet<Integer> window = previous == 0 ? ends[id].window : ends[id].previous;
            if (window == null) {
                return NONE;
            }
            if (window.isEmpty()) {
                return -1;
            }
            int number = 256 * window.last();
            for (int i = 0; i < 8; i++) {
                number += window.contains(window.last() - i) ? 1 << i : 0;
            }
            return number;
        }

        int taken(int id, int index) {
            boolean there = (id == 0 || id == 1) && index >= 0 && index < ends[id].taken.size();
            return there ? ends[id].taken.get(index) : NONE;
        }

        int kept(int id, int index, int what) {
            if (id < 0 || id > 1 || index < 0 || index >= ends[id].messages.size()) {
                return NONE;
            }
            Message m = ends[id].messages.get(index);
            int[] parts = {m.number, m.value, m.close ? 1 : 0, m.sentAt};
            return what < 0 || what > 3 ? BAD : parts[what];
        }

        int results(int id, int result) {
            return id < 0 || id > 1 || result < 0 || result > 8 ? BAD : ends[id].results[result];
        }

        int count(int what) {
            int[] counts = {network.size(), sent, delivered, dropped, repeated, time, 0, sessions};
            return what < 0 || what > 7 ? BAD : counts[what];
        }

        int event(int index, int what) {
            if (index < 0 || index >= 30 || index >= log.size()) {
                return NONE;
            }
            return what < 0 || what > 2 ? BAD : log.get(log.size() - 1 - index)[what];
        }

        int agree() {
            boolean open = ends[0].state == 3 && ends[1].state == 3;
            boolean same = ends[0].session == ends[1].session && ends[0].base == ends[1].base;
            return open && same ? 1 : 0;
        }
    }
}
