import java.util.List;
import java.util.function.Supplier;
import java.util.function.ToIntFunction;

/** Counts the answers that are not as due, and makes the situations that many tests begin with. */
final class Due {
    static final int NONE = -1000000001;
    static final int BAD = -1000000002;
    static final int FULL = -1000000003;
    static final int STATE = -1000000004;

    private static int wrong = 0;
    private static int asked = 0;
    private static String about = "";

    private Due() {
    }

    static void be(String what, long got, long want) {
        asked++;
        if (got != want) {
            wrong++;
            if (wrong <= 40) {
                System.out.println(about + what + " answered " + got + ", due is " + want);
            }
        }
    }

    static void finish(String test) {
        System.out.println(test + ": " + asked + " answers, " + wrong + " of them wrong");
        if (wrong != 0) {
            System.exit(1);
        }
    }

    static int wrong() {
        return wrong;
    }

    static int asked() {
        return asked;
    }

    /** What the answers that follow are about; it is told with each wrong one. */
    static void about(String sentence) {
        about = sentence.isEmpty() ? "" : sentence + "\n    ";
    }

    static void same(String what, List<Integer> got, List<Integer> want) {
        be(what + ", number of answers", got.size(), want.size());
        for (int i = 0; i < got.size() && i < want.size(); i++) {
            be(what + ", answer " + i, got.get(i), want.get(i));
        }
    }

    /** A call answers as is due, and leaves a simulator like one that has not seen it. */
    static void refused(String what, Supplier<SessionSimulator> maker,
            ToIntFunction<SessionSimulator> call, int want) {
        SessionSimulator x = maker.get();
        be(what, call.applyAsInt(x), want);
        same(what + " changes nothing", State.of(x), State.of(maker.get()));
    }

    /** The document's mixing, written out by its words once more. */
    static int mix(int x, int y) {
        int v = 31 * x + y;
        int shifted = v >>> 7;
        return v ^ shifted;
    }

    static int base(int firstNonce, int secondNonce, int session) {
        return mix(mix(firstNonce, secondNonce), session);
    }

    /** parts: sender, kind, epoch, sequence, a, b, acknowledgement. */
    static int tag(int base, int... parts) {
        int key = mix(mix(base, parts[2]), parts[0]);
        return mix(mix(mix(mix(key, parts[3]), mix(parts[1], parts[4])), parts[5]), parts[6]);
    }

    static void deliver(SessionSimulator x, int... positions) {
        for (int position : positions) {
            be("deliver(" + position + ")", x.deliver(position), 0);
        }
    }

    /** Both endpoints are open in session 1 with ticket 0, and the network is empty. */
    static SessionSimulator opened() {
        SessionSimulator x = new SessionSimulator();
        be("connect(5)", x.connect(5), 1);
        deliver(x, 0, 0, 0, 0);
        be("count(0) when opened", x.count(0), 0);
        return x;
    }

    /** Both endpoints are closed, and the network is empty. */
    static SessionSimulator closed() {
        SessionSimulator x = opened();
        x.close(0);
        deliver(x, 0, 0);
        x.close(1);
        deliver(x, 0, 0);
        be("state 0 when closed", x.endpoint(0, 0), 4);
        be("state 1 when closed", x.endpoint(1, 0), 4);
        be("count(0) when closed", x.count(0), 0);
        return x;
    }

    /** The first position of a packet of this sender and kind, or -1. */
    static int at(SessionSimulator x, int sender, int kind) {
        for (int position = 0; position < x.count(0); position++) {
            if (x.packet(position, 0) == sender && x.packet(position, 1) == kind) {
                return position;
            }
        }
        return -1;
    }

    static void fillNetwork(SessionSimulator x) {
        fillNetwork(x, 24);
    }

    /** Ends also if repeating does not work. */
    static void fillNetwork(SessionSimulator x, int size) {
        for (int i = 0; i < 24 && x.count(0) < size; i++) {
            x.repeat(0);
        }
    }

    static void event(SessionSimulator x, int index, int type, int first, int second) {
        be("event(" + index + ", 0)", x.event(index, 0), type);
        be("event(" + index + ", 1)", x.event(index, 1), first);
        be("event(" + index + ", 2)", x.event(index, 2), second);
    }

    static void packet(SessionSimulator x, int position, int... parts) {
        for (int what = 0; what < parts.length; what++) {
            be("packet(" + position + ", " + what + ")", x.packet(position, what), parts[what]);
        }
    }

    static void type(SessionSimulator x, String text) {
        for (int i = 0; i < text.length(); i++) {
            x.append(text.charAt(i), 1);
        }
    }

    static int run(SessionSimulator x, String text) {
        type(x, text);
        return x.runScript();
    }
}
