import java.util.List;

/** Promises 25 and 26: saving and restoring everything but the text. */
public final class SnapshotTest {
    public static void main(String[] args) {
        promise25Save();
        promise25ReplacesAnEarlierOne();
        promise26Restore();
        promise26Text();
        promise26IsKept();
        promise26Tickets();
        promise26Messages();
        promise26PreviousWindow();
        promise26EachSituation();
        Due.finish("SnapshotTest");
    }

    private static void promise25Save() {
        SessionSimulator x = new SessionSimulator();
        Due.be("nothing to restore", x.restore(), Due.NONE);
        Due.be("save", x.save(), 0);
        x.connect(5);
        x.repeat(0);
        Due.be("save two", x.save(), 2);
        Due.be("nothing else", x.count(0), 2);
        Due.be("no event", x.event(2, 0), Due.NONE);
    }

    private static void promise25ReplacesAnEarlierOne() {
        SessionSimulator x = new SessionSimulator();
        x.save();
        x.tick(3);
        x.save();
        x.tick(4);
        Due.be("restore", x.restore(), 0);
        Due.be("the later one", x.count(5), 3);
    }

    /** A state in which each part of the simulator has something to lose. */
    private static SessionSimulator busy() {
        SessionSimulator x = Due.opened();
        x.configure(2, 2, 9);
        x.tick(4);
        x.send(0, 1);
        x.send(0, 2);
        x.send(0, 3);
        x.send(0, 4);
        x.close(0);
        x.send(1, 5);
        Due.deliver(x, 0, 1);
        x.repeat(0);
        x.alter(1, 3);
        x.drop(0);
        return x;
    }

    private static void disturb(SessionSimulator x) {
        x.configure(20, 9, 50);
        for (int i = 0; i < 12; i++) {
            x.deliver(i % 3);
            x.tick(5);
            x.alter(0, 7);
            x.drop(1);
        }
        x.repeat(0);
        x.disconnect();
        x.resume(3);
        for (int i = 0; i < 6; i++) {
            x.deliver(0);
        }
        x.send(1, 9);
        x.repeat(0);
        x.close(1);
    }

    private static void promise26Restore() {
        SessionSimulator x = busy();
        List<Integer> before = State.of(x);
        Due.be("save", x.save(), x.count(0));
        disturb(x);
        Due.be("restore", x.restore(), before.get(0));
        Due.same("restored", State.of(x), before);
        Due.be("settings", x.configure(3, 3, 3), 2209);
        x.restore();
        SessionSimulator y = busy();
        y.save();
        disturb(x);
        disturb(y);
        Due.same("goes on as it would have", State.of(x), State.of(y));
    }

    private static void promise26Text() {
        SessionSimulator x = new SessionSimulator();
        x.append('t', 1);
        x.save();
        x.append('2', 1);
        x.tick(5);
        x.restore();
        Due.be("the text stays", x.count(6), 2);
        Due.be("t2", x.runScript(), 1);
        Due.be("time 2", x.count(5), 2);
        x.restore();
        Due.be("no text", x.count(6), 0);
    }

    private static void promise26IsKept() {
        SessionSimulator x = busy();
        List<Integer> before = State.of(x);
        x.save();
        for (int i = 0; i < 3; i++) {
            disturb(x);
            Due.be("restore", x.restore(), before.get(0));
            Due.same("restored again", State.of(x), before);
        }
    }

    static void promise26Tickets() {
        SessionSimulator x = Due.opened();
        x.disconnect();
        x.save();
        x.resume(1);
        Due.deliver(x, 0, 0, 0, 0);
        Due.be("ticket 1", x.endpoint(0, 11), 1);
        x.restore();
        Due.be("ticket 0", x.endpoint(0, 11), 0);
        Due.be("one issued", x.endpoint(1, 11), 1);
        x.tick(5);
        x.resume(1);
        Due.be("not used", x.deliver(0), 0);
        Due.deliver(x, 0, 0, 0);
        x.disconnect();
        x.tick(20);
        x.resume(1);
        Due.be("issued anew at 5", x.deliver(0), 0);
    }

    /** What has been taken and what waits comes back, although later streams took its places. */
    static void promise26Messages() {
        SessionSimulator x = Due.opened();
        x.send(0, 1);
        x.send(0, 2);
        x.close(0);
        x.send(1, 3);
        x.send(1, 4);
        Due.deliver(x, 0, 1, 2);
        Due.be("a close waits in 1", x.endpoint(1, 7), 1);
        Due.be("4 waits in 0", x.endpoint(0, 7), 1);
        x.save();
        x.disconnect();
        x.connect(2);
        Due.deliver(x, 0, 0, 0, 0);
        x.send(0, 5);
        x.send(0, 6);
        x.send(0, 7);
        x.send(1, 8);
        x.close(1);
        Due.deliver(x, 0, 1, 2);
        Due.be("5 instead of 1", x.taken(1, 0), 5);
        Due.be("7 waits in 1", x.endpoint(1, 7), 1);
        Due.be("a close waits in 0", x.endpoint(0, 7), 1);
        x.restore();
        Due.be("1 again", x.taken(1, 0), 1);
        Due.deliver(x, 0, 0);
        Due.be("2 is taken", x.taken(1, 1), 2);
        Due.be("and the close", x.endpoint(1, 6) * 10 + x.endpoint(1, 8), 32);
        Due.be("3 is taken", x.taken(0, 0), 3);
        Due.be("and 4", x.taken(0, 1), 4);
    }

    static void promise26PreviousWindow() {
        SessionSimulator x = Due.opened();
        x.send(0, 7);
        Due.deliver(x, 0, 0);
        x.configure(1, 1, 20);
        x.send(0, 1);
        x.configure(20, 1, 20);
        x.tick(9);
        Due.deliver(x, 0, 0, 0);
        x.save();
        Due.deliver(x, 0, 0);
        Due.be("four further ones", x.endpoint(1, 10), 0);
        x.disconnect();
        x.restore();
        Due.be("the window", x.window(1, 0), 2 * 256 + 7);
        Due.be("the previous window", x.window(1, 1), 256 + 3);
        Due.deliver(x, 0);
        Due.be("three further ones", x.endpoint(1, 10), 1);
        Due.deliver(x, 0);
        Due.be("four again", x.endpoint(1, 10), 0);
    }

    private static final int SITUATIONS = 7;

    /** Brings a simulator from any state to one in which some part of it matters. */
    private static void bring(SessionSimulator x, int situation) {
        x.disconnect();
        if (x.resume(100 + situation) < 0) {
            x.connect(200 + situation);
        }
        if (situation == 0) {
            x.tick(2);
        } else if (situation == 1) {
            x.repeat(0);
            x.deliver(0);
        } else {
            open(x);
        }
        if (situation == 3) {
            x.send(0, 33);
            x.send(0, 34);
            x.close(0);
            x.deliver(2);
            x.deliver(1);
        } else if (situation == 4) {
            x.configure(1, 2, 40);
            x.send(0, 44);
            x.send(1, 45);
            x.deliver(0);
            x.deliver(0);
        } else if (situation == 5) {
            x.configure(5, 3, 20);
            x.send(1, 55);
            x.send(0, 56);
            open(x);
            x.repeat(0);
        } else if (situation == 6) {
            x.close(0);
            x.close(1);
            open(x);
        }
    }

    private static void open(SessionSimulator x) {
        for (int i = 0; i < 4; i++) {
            x.deliver(0);
        }
    }

    private static void goOn(SessionSimulator x) {
        x.send(0, 61);
        x.send(1, 62);
        x.tick(1);
        for (int i = 0; i < 12; i++) {
            x.deliver(i % 2);
        }
        x.tick(3);
        open(x);
    }

    /** After restoring, a simulator goes on like one that has not seen anything since. */
    static void promise26EachSituation() {
        for (int before = 0; before < SITUATIONS; before++) {
            for (int since = 0; since < SITUATIONS; since++) {
                SessionSimulator x = Due.opened();
                SessionSimulator y = Due.opened();
                bring(x, before);
                bring(y, before);
                x.save();
                x.tick(4);
                bring(x, since);
                x.restore();
                String what = before + " restored from " + since;
                Due.same(what, State.of(x), State.of(y));
                goOn(x);
                goOn(y);
                Due.same(what + ", going on", State.of(x), State.of(y));
            }
        }
    }
}
