/** Promises 23 and 24: the text, its syntax, and what its actions do. */
public final class ScriptTest {
    public static void main(String[] args) {
        promise23Append();
        promise23Full();
        promise24Actions();
        promise24Numbers();
        promise24ErrorOffsets();
        promise24ErrorDoesNothing();
        promise24EndsBeforeErrors();
        promise24NoneIsNoError();
        promise24TextIsEmptyAfterwards();
        promise24LongScripts();
        Due.finish("ScriptTest");
    }

    private static void promise23Append() {
        SessionSimulator x = new SessionSimulator();
        Due.be("append(0, 1)", x.append(0, 1), 1);
        Due.be("append(127, 2)", x.append(127, 2), 3);
        Due.be("append(-1, 1)", x.append(-1, 1), Due.BAD);
        Due.be("append(128, 1)", x.append(128, 1), Due.BAD);
        Due.be("append(50, 0)", x.append(50, 0), Due.BAD);
        Due.be("append(50, -1)", x.append(50, -1), Due.BAD);
        Due.be("append(50, 41)", x.append(50, 41), Due.BAD);
        Due.be("append(50, far)", x.append(50, Integer.MAX_VALUE), Due.BAD);
        Due.be("three characters", x.count(6), 3);
    }

    private static void promise23Full() {
        SessionSimulator x = new SessionSimulator();
        x.append('t', 1);
        Due.be("41 in all", x.append('t', 40), Due.FULL);
        Due.be("unchanged", x.count(6), 1);
        Due.be("40 in all", x.append('t', 39), 40);
        Due.be("one more", x.append('t', 1), Due.FULL);
        Due.be("bad argument before full", x.append(128, 1), Due.BAD);
        x.runScript();
        Due.be("40 at once", x.append('t', 40), 40);
    }

    private static void promise24Actions() {
        SessionSimulator x = Due.opened();
        Due.be("s015", Due.run(x, "s015"), 1);
        Due.be("15 is kept", x.kept(0, 0, 1), 15);
        Due.be("s17", Due.run(x, "s17"), 1);
        Due.be("7 is kept", x.kept(1, 0, 1), 7);
        Due.be("u1;u0", Due.run(x, "u1;u0"), 2);
        Due.be("four packets", x.count(0), 4);
        Due.be("the last is of endpoint 0", x.packet(3, 0), 0);
        Due.be("x2", Due.run(x, "x2"), 1);
        Due.be("three packets", x.count(0), 3);
        Due.be("one dropped", x.count(3), 1);
        Due.be("d0;d0", Due.run(x, "d0;d0"), 2);
        Due.be("15 is taken", x.taken(1, 0), 15);
        Due.be("7 is taken", x.taken(0, 0), 7);
        Due.be("t", Due.run(x, "t"), 1);
        Due.be("time 1", x.count(5), 1);
        Due.be("t7;t", Due.run(x, "t7;t"), 2);
        Due.be("time 9", x.count(5), 9);
    }

    private static void promise24Numbers() {
        SessionSimulator x = Due.opened();
        Due.be("t50", Due.run(x, "t50"), 1);
        Due.be("time 50", x.count(5), 50);
        Due.be("t05;t00;t0", Due.run(x, "t05;t00;t0"), 3);
        Due.be("time 55", x.count(5), 55);
        Due.be("s099", Due.run(x, "s099"), 1);
        Due.be("99", x.kept(0, 0, 1), 99);
        Due.be("s009", Due.run(x, "s009"), 1);
        Due.be("9", x.kept(0, 1, 1), 9);
        Due.fillNetwork(x);
        Due.be("x23;x20", Due.run(x, "x23;x20"), 2);
        Due.be("22 packets", x.count(0), 22);
    }

    private static void error(String text, int offset) {
        SessionSimulator x = Due.opened();
        Due.be("'" + text + "'", Due.run(x, text), -2000 - offset);
        Due.be("'" + text + "' leaves no text", x.count(6), 0);
        Due.be("'" + text + "' changes nothing", x.count(0) + x.count(5) + x.endpoint(0, 5), 0);
    }

    private static void promise24ErrorOffsets() {
        error("", 0);
        error(";", 0);
        error("a", 0);
        error("D0", 0);
        error(" d0", 0);
        error("5", 0);
        error("d", 1);
        error("x", 1);
        error("u", 1);
        error("s", 1);
        error("d;", 1);
        error("da", 1);
        error("d-1", 1);
        error("d/", 1);
        error("d:", 1);
        error("s2", 1);
        error("s0", 2);
        error("s1;", 2);
        error("sa5", 1);
        error("s0a", 2);
        error("s0-1", 2);
        error("tt", 1);
        error("t1t", 2);
        error("t123", 3);
        error("d000", 3);
        error("s0123", 4);
        error("t;", 2);
        error("t;;t", 2);
        error("t,t", 1);
        error("t;d", 3);
        error("s01;t9;x", 8);
        error("s01;s02;d0 ", 10);
        SessionSimulator x = new SessionSimulator();
        x.append('t', 1);
        x.append(0, 1);
        Due.be("a character 0", x.runScript(), -2001);
    }

    private static void promise24ErrorDoesNothing() {
        SessionSimulator x = Due.opened();
        Due.be("an error behind actions", Due.run(x, "s01;t;t9;d0;!"), -2012);
        Due.be("no message", x.endpoint(0, 5), 0);
        Due.be("no tick", x.count(5), 0);
    }

    private static void promise24EndsBeforeErrors() {
        SessionSimulator x = Due.opened();
        Due.be("t51 is too much", Due.run(x, "t2;t51;t3"), 1);
        Due.be("time 2", x.count(5), 2);
        Due.be("t99, too", Due.run(x, "t99"), 0);
        x.close(0);
        Due.be("no message after a close", Due.run(x, "t;s11;s01;t"), 2);
        Due.be("time 3", x.count(5), 3);
        Due.fillNetwork(x);
        Due.be("no room to repeat", Due.run(x, "u0;t"), 0);
        Due.be("room by dropping", Due.run(x, "x0;u0;u0;t"), 2);
        Due.be("time 3 still", x.count(5), 3);
        x = Due.opened();
        for (int i = 0; i < 15; i++) {
            x.send(1, i);
        }
        Due.be("a 17th message", Due.run(x, "s18;s19;t"), 1);
        Due.be("16 are kept", x.endpoint(1, 5), 16);
    }

    private static void promise24NoneIsNoError() {
        SessionSimulator x = new SessionSimulator();
        Due.be("no such packets", Due.run(x, "d0;x5;u99;t"), 4);
        Due.be("time 1", x.count(5), 1);
    }

    private static void promise24TextIsEmptyAfterwards() {
        SessionSimulator x = new SessionSimulator();
        Due.be("t", Due.run(x, "t"), 1);
        Due.be("no text", x.count(6), 0);
        Due.be("nothing to run", x.runScript(), -2000);
        Due.be("t51", Due.run(x, "t51"), 0);
        Due.be("no text after an error", x.count(6), 0);
        Due.type(x, "t;");
        Due.be("1 call later", x.append('t', 1), 3);
        Due.be("t;t", x.runScript(), 2);
    }

    private static void promise24LongScripts() {
        SessionSimulator x = new SessionSimulator();
        StringBuilder text = new StringBuilder("t");
        for (int i = 0; i < 19; i++) {
            text.append(";t");
        }
        Due.be("20 actions", Due.run(x, text.toString()), 20);
        Due.be("time 20", x.count(5), 20);
        Due.be("40 characters", Due.run(x, text + "2"), 20);
        Due.be("time 41", x.count(5), 41);
        Due.be("ends too early", Due.run(x, text + ";"), -2040);
        Due.be("ends with a full text", Due.run(x, "d0;d0;d0;d0;d0;d0;d0;d0;d0;d0;d0;d0;d0;d"), -2040);
    }
}
