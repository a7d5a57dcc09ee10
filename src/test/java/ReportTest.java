/** Promises 19 to 21: how often there were results, the counts, and the log. */
public final class ReportTest {
    public static void main(String[] args) {
        promise19Results();
        promise20Count();
        promise20Characters();
        promise21Event();
        promise21OnlyThirty();
        Due.finish("ReportTest");
    }

    private static void promise19Results() {
        SessionSimulator x = Due.opened();
        Due.be("0 has accepted", x.results(0, 0), 2);
        Due.be("1 has accepted", x.results(1, 0), 2);
        x.send(0, 1);
        x.repeat(0);
        x.repeat(0);
        Due.deliver(x, 0);
        x.deliver(0);
        x.deliver(0);
        Due.be("two replays", x.results(1, 6), 2);
        Due.be("none for 0", x.results(0, 6), 0);
        Due.be("1 has accepted 3", x.results(1, 0), 3);
        Due.be("results(2, 0)", x.results(2, 0), Due.BAD);
        Due.be("results(-1, 0)", x.results(-1, 0), Due.BAD);
        Due.be("results(0, 9)", x.results(0, 9), Due.BAD);
        Due.be("results(0, -1)", x.results(0, -1), Due.BAD);
        Due.be("results(0, far)", x.results(0, Integer.MIN_VALUE), Due.BAD);
        x.disconnect();
        x.connect(1);
        Due.be("they go on", x.results(1, 6), 2);
    }

    private static void promise20Count() {
        SessionSimulator x = Due.opened();
        x.send(0, 1);
        x.send(1, 2);
        x.repeat(1);
        x.repeat(1);
        x.repeat(0);
        x.drop(4);
        x.tick(2);
        Due.be("in the network", x.count(0), 4);
        Due.be("sent", x.count(1), 6);
        Due.be("delivered", x.count(2), 4);
        Due.be("dropped", x.count(3), 1);
        Due.be("repeated", x.count(4), 3);
        Due.be("time", x.count(5), 2);
        Due.be("characters", x.count(6), 0);
        Due.be("session", x.count(7), 1);
        Due.deliver(x, 1);
        x.deliver(1);
        Due.be("each result counts as delivered", x.count(2), 6);
        x.disconnect();
        Due.be("dropped by disconnecting", x.count(3), 4);
        x.connect(2);
        Due.be("session 2", x.count(7), 2);
        Due.be("count(8)", x.count(8), Due.BAD);
        Due.be("count(-1)", x.count(-1), Due.BAD);
    }

    private static void promise20Characters() {
        SessionSimulator x = new SessionSimulator();
        x.append('a', 17);
        Due.be("17 characters", x.count(6), 17);
        x.append('b', 23);
        Due.be("40 characters", x.count(6), 40);
        x.runScript();
        Due.be("none", x.count(6), 0);
    }

    private static void promise21Event() {
        SessionSimulator x = new SessionSimulator();
        Due.be("no event", x.event(0, 0), Due.NONE);
        Due.be("none comes first", x.event(0, 3), Due.NONE);
        x.connect(5);
        Due.be("event(0, 3)", x.event(0, 3), Due.BAD);
        Due.be("event(0, -1)", x.event(0, -1), Due.BAD);
        Due.be("event(-1, 0)", x.event(-1, 0), Due.NONE);
        Due.be("event(2, 0)", x.event(2, 0), Due.NONE);
        Due.deliver(x, 0, 0, 0, 0);
        int[][] events = {
            {3, 0, 1}, {0, 0, 0}, {1, 0, 0}, {3, 1, 2}, {0, 1, 1}, {1, 1, 0}, {3, 0, 3}, {0, 0, 3},
            {1, 3, 0}, {3, 1, 3}, {0, 1, 6}, {1, 6, 0}};
        for (int i = 0; i < events.length; i++) {
            Due.event(x, events.length - 1 - i, events[i][0], events[i][1], events[i][2]);
        }
        Due.be("no more", x.event(events.length, 0), Due.NONE);
    }

    private static void promise21OnlyThirty() {
        SessionSimulator x = Due.opened();
        x.send(0, 1);
        x.repeat(0);
        Due.deliver(x, 0);
        Due.event(x, 1, 1, 4, 0);
        Due.be("15 events", x.event(14, 0), 3);
        Due.be("not 16", x.event(15, 0), Due.NONE);
        for (int i = 0; i < 15; i++) {
            x.repeat(0);
            x.deliver(0);
        }
        Due.event(x, 0, 1, 4, 6);
        Due.event(x, 29, 3, 0, 1);
        Due.be("no 31st", x.event(30, 0), Due.NONE);
        x.drop(0);
        Due.event(x, 0, 2, 1, 5);
        Due.event(x, 1, 1, 4, 6);
        Due.event(x, 29, 0, 0, 0);
        Due.be("still no 31st", x.event(30, 0), Due.NONE);
        for (int i = 0; i < 29; i++) {
            x.repeat(0);
            x.drop(0);
        }
        Due.event(x, 29, 2, 1, 5);
    }
}
