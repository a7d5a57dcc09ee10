import java.util.ArrayList;
import java.util.List;

/** All that a simulator can be asked for, with no more than some 400 calls. */
final class State {
    private State() {
    }

    static List<Integer> of(SessionSimulator x) {
        List<Integer> all = new ArrayList<>();
        for (int what = 0; what <= 7; what++) {
            all.add(x.count(what));
        }
        addEndpoint(x, 0, all);
        addEndpoint(x, 1, all);
        for (int position = 0; position < Math.min(24, all.get(0)); position++) {
            all.add(x.foresee(position));
            for (int what = 0; what <= 8; what++) {
                all.add(x.packet(position, what));
            }
        }
        for (int index = 0; index < 40 && x.event(index, 0) != Due.NONE; index++) {
            for (int what = 0; what <= 2; what++) {
                all.add(x.event(index, what));
            }
        }
        all.add(x.agree());
        all.add(settings(x));
        return all;
    }

    private static void addEndpoint(SessionSimulator x, int e, List<Integer> all) {
        for (int what = 0; what <= 11; what++) {
            all.add(x.endpoint(e, what));
        }
        for (int result = 0; result <= 8; result++) {
            all.add(x.results(e, result));
        }
        all.add(x.window(e, 0));
        all.add(x.window(e, 1));
        for (int index = 0; index < Math.min(512, x.endpoint(e, 8)); index++) {
            all.add(x.taken(e, index));
        }
        for (int index = 0; index < Math.min(16, x.endpoint(e, 5)); index++) {
            for (int what = 0; what <= 3; what++) {
                all.add(x.kept(e, index, what));
            }
        }
    }

    /** The settings can only be read by setting others, so they are put back. */
    static int settings(SessionSimulator x) {
        int settings = x.configure(6, 3, 20);
        x.configure(settings / 1000, settings % 1000 / 100, settings % 100);
        return settings;
    }
}
