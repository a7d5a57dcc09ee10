import java.util.Random;

/**
 * Long mixed runs: each answer of the class is compared with that of the model. After each call
 * all that can be asked is asked; the class counts no calls, so asking does not wear it out.
 */
public final class ModelTest {
    private static final int RUNS = 700;
    private static final int CALLS = 512;
    private static final int[][] seen = new int[2][9];
    private static int opened = 0;
    private static int closed = 0;
    private static int full = 0;

    private final Random random;
    private final SessionSimulator x = new SessionSimulator();
    private final Model model = new Model();
    private final int style;
    private final String name;

    private ModelTest(int run) {
        random = new Random(run);
        style = run % 7;
        name = "run " + run;
    }

    public static void main(String[] args) {
        for (int run = 0; run < RUNS && Due.wrong() == 0; run++) {
            new ModelTest(run).compareRun();
        }
        scriptErrors();
        for (int result = 0; result <= 8; result++) {
            boolean met = seen[0][result] + seen[1][result] > 20;
            Due.be("result " + result + " is met by the runs", met ? 1 : 0, 1);
        }
        Due.be("endpoints that agree are met", opened > 20 ? 1 : 0, 1);
        Due.be("closed endpoints are met", closed > 20 ? 1 : 0, 1);
        Due.be("full networks are met", full > 20 ? 1 : 0, 1);
        Due.finish("ModelTest");
    }

    private void compareRun() {
        for (int call = 0; call < CALLS && Due.wrong() == 0; call++) {
            step(call);
            compareAll(name + ", call " + call);
        }
        for (int e = 0; e <= 1; e++) {
            for (int result = 0; result <= 8; result++) {
                seen[e][result] += x.results(e, result);
            }
        }
    }

    private int pick(int bound) {
        return random.nextInt(bound);
    }

    /** Mostly a position that is there, and most often the first one. */
    private int position() {
        int size = x.count(0);
        if (size == 0 || pick(40) == 0) {
            return pick(28) - 2;
        }
        return style == 1 || pick(3) == 0 ? pick(size) : 0;
    }

    private int nearly(int least, int most) {
        return pick(30) == 0 ? (pick(2) == 0 ? least - 1 - pick(2) : most + 1 + pick(2))
            : least + pick(most - least + 1);
    }

    private int endpoint() {
        return pick(60) == 0 ? pick(5) - 2 : pick(2);
    }

    private void same(String call, int got, int want) {
        Due.be(name + ": " + call, got, want);
    }

    private void step(int call) {
        int chance = pick(100);
        if (call < 8 && style != 5) {
            chance = call == 0 ? 70 : 0;
        }
        if (chance < 40) {
            int p = position();
            same("deliver " + p, x.deliver(p), model.act(c -> c.deliver(p)));
        } else if (chance < 58) {
            int e = endpoint();
            int value = nearly(-999, 999);
            same("send " + e, x.send(e, value), model.act(c -> c.send(e, value)));
        } else if (chance < 66) {
            int n = pick(4) == 0 ? nearly(1, 50) : 1 + pick(4);
            same("tick " + n, x.tick(n), model.act(c -> c.tick(n)));
        } else if (chance < 72) {
            begin();
        } else if (chance < 90) {
            disturb();
        } else {
            rare();
        }
    }

    private void begin() {
        int nonce = nearly(0, 9999);
        if (style == 3) {
            beginWithAForeignTicket(nonce);
        }
        if (style == 6) {
            beginWithACopiedHello(nonce);
        }
        if (pick(2) == 0) {
            same("resume " + nonce, x.resume(nonce), model.act(c -> c.resume(nonce)));
        }
        same("connect " + nonce, x.connect(nonce), model.act(c -> c.connect(nonce)));
    }

    /** Endpoint 0 begins its stream anew and endpoint 1 does not, so that old closes are met. */
    private void beginWithAForeignTicket(int nonce) {
        int e = pick(2);
        same("close " + e, x.close(e), model.act(c -> c.close(e)));
        for (int i = 0; i < 6; i++) {
            same("deliver 0", x.deliver(0), model.act(c -> c.deliver(0)));
        }
        same("disconnect", x.disconnect(), model.act(c -> c.disconnect()));
        same("connect " + nonce, x.connect(nonce), model.act(c -> c.connect(nonce)));
        int delta = x.endpoint(1, 11) - pick(2);
        same("alter " + delta, x.alter(0, delta), model.act(c -> c.alter(0, delta)));
        for (int i = 0; i < 4; i++) {
            same("deliver 0", x.deliver(0), model.act(c -> c.deliver(0)));
        }
    }

    /** Endpoint 1 closes, and begins its stream anew in the same session and with the same keys. */
    private void beginWithACopiedHello(int nonce) {
        same("disconnect", x.disconnect(), model.act(c -> c.disconnect()));
        same("connect " + nonce, x.connect(nonce), model.act(c -> c.connect(nonce)));
        same("repeat 0", x.repeat(0), model.act(c -> c.repeat(0)));
        same("deliver 0", x.deliver(0), model.act(c -> c.deliver(0)));
        deliverSecond(3);
        for (int i = pick(5); i >= 0; i--) {
            same("send 0", x.send(0, 4), model.act(c -> c.send(0, 4)));
        }
        deliverSecond(8);
        same("close 1", x.close(1), model.act(c -> c.close(1)));
        deliverSecond(2 + pick(2));
        same("close 0", x.close(0), model.act(c -> c.close(0)));
        deliverSecond(1);
        same("drop 1", x.drop(1), model.act(c -> c.drop(1)));
        same("deliver 0", x.deliver(0), model.act(c -> c.deliver(0)));
        same("tick 3", x.tick(3), model.act(c -> c.tick(3)));
        for (int i = pick(7); i >= 0; i--) {
            same("deliver 0", x.deliver(0), model.act(c -> c.deliver(0)));
            same("send 1", x.send(1, 9), model.act(c -> c.send(1, 9)));
        }
    }

    private void deliverSecond(int times) {
        for (int i = 0; i < times; i++) {
            same("deliver 1", x.deliver(1), model.act(c -> c.deliver(1)));
        }
    }

    private void disturb() {
        int p = position();
        int what = pick(style == 2 ? 12 : 8);
        if (what < 2) {
            same("drop " + p, x.drop(p), model.act(c -> c.drop(p)));
        } else if (what < 4 || what >= 8) {
            same("repeat " + p, x.repeat(p), model.act(c -> c.repeat(p)));
        } else if (what == 4) {
            int delta = pick(2) == 0 ? pick(5) - 2 : nearly(-99, 99);
            same("alter " + p, x.alter(p, delta), model.act(c -> c.alter(p, delta)));
        } else {
            same("deliver " + p, x.deliver(p), model.act(c -> c.deliver(p)));
        }
    }

    private void rare() {
        int what = pick(16);
        if (what < 2) {
            int k = style == 4 ? 1 + pick(3) : nearly(1, 20);
            int t = nearly(1, 9);
            int l = nearly(0, 50);
            same("configure", x.configure(k, t, l), model.act(c -> c.configure(k, t, l)));
        } else if (what < 5) {
            int e = endpoint();
            same("close " + e, x.close(e), model.act(c -> c.close(e)));
        } else if (what < 7) {
            same("save", x.save(), model.save());
        } else if (what < 8) {
            same("restore", x.restore(), model.restore());
        } else if (what < 11) {
            same("disconnect", x.disconnect(), model.act(c -> c.disconnect()));
        } else {
            script();
        }
    }

    private void script() {
        StringBuilder text = new StringBuilder();
        int actions = 1 + pick(7);
        for (int i = 0; i < actions; i++) {
            text.append(i == 0 ? "" : ";").append(action());
        }
        if (pick(12) == 0) {
            text.setCharAt(pick(text.length()), "dxuts019;a /:".charAt(pick(13)));
        }
        if (pick(12) == 0) {
            text.setLength(pick(text.length() + 1));
        }
        for (int i = 0; i < text.length(); i++) {
            int code = text.charAt(i);
            same("append " + code, x.append(code, 1), model.append(code, 1));
        }
        same("runScript " + text, x.runScript(), model.runScript());
    }

    private String action() {
        switch (pick(9)) {
            case 0: return "x" + pick(12);
            case 1: return "u" + pick(12);
            case 2: return "t";
            case 3: return "t" + (pick(8) == 0 ? pick(60) : pick(5));
            case 4:
            case 5: return "s" + pick(2) + pick(100);
            default: return "d" + pick(6);
        }
    }

    private void compareAll(String when) {
        Model.Core core = model.core;
        for (int what = -1; what <= 8; what++) {
            int want = what == 6 ? model.characters() : core.count(what);
            Due.be(when + ": count " + what, x.count(what), want);
        }
        for (int e = -1; e <= 2; e++) {
            compareEndpoint(when + ": endpoint " + e, e);
        }
        for (int position = -1; position <= x.count(0); position++) {
            Due.be(when + ": foresee " + position, x.foresee(position), core.foresee(position));
            for (int what = -1; what <= 9; what++) {
                Due.be(when + ": packet " + position + " " + what, x.packet(position, what),
                    core.packet(position, what));
            }
        }
        for (int index = -1; index <= 30; index++) {
            for (int what = -1; what <= 3; what++) {
                Due.be(when + ": event " + index + " " + what, x.event(index, what), core.event(index, what));
            }
        }
        Due.be(when + ": agree", x.agree(), core.agree());
        opened += x.agree();
        closed += x.endpoint(0, 0) == 4 || x.endpoint(1, 0) == 4 ? 1 : 0;
        full += x.count(0) == 24 ? 1 : 0;
    }

    private void compareEndpoint(String when, int e) {
        Model.Core core = model.core;
        for (int what = -1; what <= 12; what++) {
            Due.be(when + " part " + what, x.endpoint(e, what), core.endpoint(e, what));
        }
        for (int result = -1; result <= 9; result++) {
            Due.be(when + " results " + result, x.results(e, result), core.results(e, result));
        }
        for (int previous = -1; previous <= 2; previous++) {
            Due.be(when + " window " + previous, x.window(e, previous), core.window(e, previous));
        }
        int taken = Math.max(0, x.endpoint(e, 8));
        for (int index = Math.max(-1, taken - 6); index <= taken; index++) {
            Due.be(when + " taken " + index, x.taken(e, index), core.taken(e, index));
        }
        for (int index = -1; index <= 16; index++) {
            for (int what = -1; what <= 4; what++) {
                Due.be(when + " kept " + index + " " + what, x.kept(e, index, what), core.kept(e, index, what));
            }
        }
    }

    /** Texts of few signs, so that errors stand at each place of an action. */
    private static void scriptErrors() {
        Random random = new Random(7);
        SessionSimulator x = new SessionSimulator();
        Model model = new Model();
        for (int i = 0; i < 20000; i++) {
            int length = random.nextInt(9);
            StringBuilder text = new StringBuilder();
            for (int k = 0; k < length; k++) {
                char sign = "dxuttss0001259;;;/:".charAt(random.nextInt(19));
                text.append(sign);
                x.append(sign, 1);
                model.append(sign, 1);
            }
            Due.be("script '" + text + "'", x.runScript(), model.runScript());
        }
    }
}
