/** Promises 15 and 16: epochs, keys, windows and the numbers about an endpoint. */
public final class ProtectionTest {
    public static void main(String[] args) {
        promise15Endpoint();
        promise15WrongArguments();
        promise15EpochsByCounts();
        promise15EpochsBeginAnew();
        promise16Window();
        promise16WrongArguments();
        promise16WindowMovesFar();
        promise16TooOld();
        promise16Replayed();
        promise16NextEpoch();
        promise16PreviousIsForgotten();
        promise16EpochAfterTheNext();
        promise16EpochTooFar();
        promise16EmptyPrevious();
        Due.finish("ProtectionTest");
    }

    private static void endpoint(SessionSimulator x, int endpoint, int... parts) {
        for (int what = 0; what < parts.length; what++) {
            Due.be("endpoint(" + endpoint + ", " + what + ")", x.endpoint(endpoint, what), parts[what]);
        }
    }

    private static void promise15Endpoint() {
        SessionSimulator x = Due.opened();
        int base = Due.base(5, Due.mix(5, Due.mix(1, 0)), 1);
        endpoint(x, 0, 3, 1, 0, 1, 0, 0, 0, 0, 0, base, 0, 0);
        endpoint(x, 1, 3, 1, 0, 1, 0, 0, 0, 0, 0, base, 0, 1);
        x.configure(2, 3, 20);
        x.send(0, 1);
        x.send(0, 2);
        x.send(0, 3);
        Due.deliver(x, 0);
        endpoint(x, 0, 3, 1, 1, 2, 0, 3, 0, 0, 0, base, 0, 0);
        endpoint(x, 1, 3, 1, 0, 2, 0, 0, 1, 0, 1, base, 0, 1);
        Due.deliver(x, 1);
        endpoint(x, 1, 3, 1, 1, 1, 1, 0, 1, 1, 1, base, 1, 1);
    }

    private static void promise15WrongArguments() {
        SessionSimulator x = new SessionSimulator();
        Due.be("endpoint(2, 0)", x.endpoint(2, 0), Due.BAD);
        Due.be("endpoint(-1, 0)", x.endpoint(-1, 0), Due.BAD);
        Due.be("endpoint(0, 12)", x.endpoint(0, 12), Due.BAD);
        Due.be("endpoint(1, 12)", x.endpoint(1, 12), Due.BAD);
        Due.be("endpoint(0, -1)", x.endpoint(0, -1), Due.BAD);
        Due.be("endpoint(2, 11)", x.endpoint(2, 11), Due.BAD);
        Due.be("endpoint(-1, 11)", x.endpoint(-1, 11), Due.BAD);
        Due.be("endpoint far", x.endpoint(Integer.MAX_VALUE, Integer.MIN_VALUE), Due.BAD);
    }

    private static void promise15EpochsByCounts() {
        SessionSimulator x = Due.opened();
        x.configure(3, 1, 20);
        x.send(0, 1);
        x.send(0, 2);
        Due.be("epoch 0 is used up", x.endpoint(0, 2), 0);
        Due.be("the next would be 3", x.endpoint(0, 3), 3);
        x.send(0, 3);
        Due.be("epoch 1", x.endpoint(0, 2), 1);
        Due.be("one is used", x.endpoint(0, 3), 1);
        Due.packet(x, 2, 0, 4, 1, 1, 0, 2, 3, 0);
        x.tick(1);
        Due.packet(x, 3, 0, 4, 1, 1, 1, 0, 1, 0);
        Due.packet(x, 4, 0, 4, 1, 1, 2, 1, 2, 0);
        Due.packet(x, 5, 0, 4, 1, 2, 0, 2, 3, 0);
    }

    private static void promise15EpochsBeginAnew() {
        SessionSimulator x = Due.opened();
        x.configure(1, 3, 20);
        x.send(0, 1);
        x.send(1, 2);
        Due.deliver(x, 0, 0);
        Due.be("previous windows", x.endpoint(0, 10) + x.endpoint(1, 10), 2);
        Due.be("sending epoch of 0", x.endpoint(0, 2), 2);
        Due.be("sending epoch of 1", x.endpoint(1, 2), 2);
        x.disconnect();
        Due.be("receiving epochs stay", x.endpoint(0, 4) + x.endpoint(1, 4), 2);
        x.connect(3);
        Due.be("endpoint 0 has its epochs until the reply", x.endpoint(0, 2), 2);
        Due.be("and its window", x.endpoint(0, 10), 1);
        Due.deliver(x, 0);
        endpoint(x, 1, 2, 2, 0, 0, 0, 0, 0, 0, 0);
        Due.be("no window", x.window(1, 0), -1);
        Due.be("no previous window", x.window(1, 1), Due.NONE);
        Due.deliver(x, 0);
        endpoint(x, 0, 3, 2, 0, 1, 0, 0, 0, 0, 0);
        Due.be("no window of 0", x.window(0, 0), -1);
        Due.be("no previous window of 0", x.window(0, 1), Due.NONE);
    }

    private static void promise16Window() {
        SessionSimulator x = Due.opened();
        Due.be("finish is 0", x.window(1, 0), 1);
        Due.be("ticket is 0", x.window(0, 0), 1);
        x.send(0, 1);
        x.send(0, 2);
        x.send(0, 3);
        Due.deliver(x, 2);
        Due.be("3 and 0", x.window(1, 0), 3 * 256 + 9);
        Due.deliver(x, 0);
        Due.be("3, 1 and 0", x.window(1, 0), 3 * 256 + 13);
        Due.deliver(x, 0);
        Due.be("3 to 0", x.window(1, 0), 3 * 256 + 15);
        Due.be("no previous", x.window(1, 1), Due.NONE);
    }

    private static void promise16WrongArguments() {
        SessionSimulator x = new SessionSimulator();
        Due.be("window(2, 0)", x.window(2, 0), Due.BAD);
        Due.be("window(-1, 0)", x.window(-1, 0), Due.BAD);
        Due.be("window(0, 2)", x.window(0, 2), Due.BAD);
        Due.be("window(0, -1)", x.window(0, -1), Due.BAD);
        Due.be("bad argument before none", x.window(2, 1), Due.BAD);
        Due.be("none", x.window(1, 1), Due.NONE);
    }

    /** Endpoint 0 sends a message again each tick; the sequence number of the last is told. */
    private static SessionSimulator resent(int last) {
        SessionSimulator x = Due.opened();
        x.configure(20, 1, 50);
        x.send(0, 1);
        for (int i = 1; i < last; i++) {
            x.tick(1);
        }
        Due.be("the last sequence number", x.packet(x.count(0) - 1, 4), last);
        return x;
    }

    private static void promise16WindowMovesFar() {
        SessionSimulator x = resent(19);
        Due.deliver(x, 6);
        Due.be("7 and 0", x.window(1, 0), 7 * 256 + 129);
        Due.deliver(x, 6);
        Due.be("8, 7, but 0 is out of it", x.window(1, 0), 8 * 256 + 3);
        Due.deliver(x, 14);
        Due.be("17 alone", x.window(1, 0), 17 * 256 + 1);
    }

    private static void promise16TooOld() {
        SessionSimulator x = resent(12);
        Due.deliver(x, 9);
        Due.be("10 alone", x.window(1, 0), 10 * 256 + 1);
        Due.be("10 - 7 is not too old", x.foresee(2), 0);
        Due.be("10 - 8 is", x.foresee(1), 5);
        Due.be("and less", x.deliver(0), 5);
        x.repeat(1);
        Due.deliver(x, 1);
        Due.be("10 and 3", x.window(1, 0), 10 * 256 + 129);
        Due.be("3 again is a replay", x.foresee(x.count(0) - 2), 6);
        Due.be("counted", x.results(1, 5), 1);
    }

    private static void promise16Replayed() {
        SessionSimulator x = resent(3);
        x.repeat(0);
        x.repeat(1);
        Due.deliver(x, 1);
        Due.be("2 again", x.deliver(3), 6);
        Due.be("1 for the first time", x.deliver(0), 0);
        Due.be("1 again", x.deliver(1), 6);
        Due.be("3", x.deliver(0), 0);
        Due.be("counted", x.results(1, 6), 2);
    }

    /** Sequence numbers 1 to 5 of epoch 0 and then the epochs of the key limit that is told. */
    private static SessionSimulator changedKeys(int sends, int keyLimit) {
        SessionSimulator x = resent(sends);
        x.configure(keyLimit, 1, 50);
        return x;
    }

    private static void promise16NextEpoch() {
        SessionSimulator x = changedKeys(3, 4);
        x.tick(4);
        Due.packet(x, 2, 0, 4, 1, 0, 3);
        Due.packet(x, 3, 0, 4, 1, 1, 0);
        Due.packet(x, 6, 0, 4, 1, 1, 3);
        Due.deliver(x, 1);
        Due.deliver(x, 3);
        Due.be("the receiving epoch", x.endpoint(1, 4), 1);
        Due.be("its window", x.window(1, 0), 1 * 256 + 1);
        Due.be("has a previous one", x.endpoint(1, 10), 1);
        Due.be("the previous window", x.window(1, 1), 2 * 256 + 5);
        Due.be("epoch 0 goes on", x.deliver(0), 0);
        Due.be("in the previous window", x.window(1, 1), 2 * 256 + 7);
        x.repeat(0);
        Due.deliver(x, 0);
        Due.be("a higher one, too", x.window(1, 1), 3 * 256 + 15);
        Due.be("the window stays", x.window(1, 0), 1 * 256 + 1);
        Due.be("the epoch stays", x.endpoint(1, 4), 1);
        Due.be("a replay in the previous window", x.foresee(x.count(0) - 2), 6);
    }

    private static void promise16PreviousIsForgotten() {
        SessionSimulator x = changedKeys(3, 20);
        x.configure(4, 1, 50);
        x.tick(1);
        x.configure(20, 1, 50);
        x.tick(6);
        Due.packet(x, 3, 0, 4, 1, 1, 0);
        Due.packet(x, 9, 0, 4, 1, 1, 6);
        Due.deliver(x, 3);
        Due.be("the one that changed it does not count", x.endpoint(1, 10), 1);
        Due.deliver(x, 3, 3, 3);
        Due.be("after three", x.endpoint(1, 10), 1);
        Due.deliver(x, 0);
        Due.be("those of the previous epoch do not count", x.endpoint(1, 10), 1);
        x.repeat(0);
        Due.be("epoch 0 is good", x.foresee(0), 0);
        x.alter(2, 1);
        Due.be("wrong ones do not count", x.deliver(2), 4);
        Due.be("kept still", x.endpoint(1, 10), 1);
        Due.deliver(x, 2);
        Due.be("after four", x.endpoint(1, 10), 0);
        Due.be("none", x.window(1, 1), Due.NONE);
        Due.be("epoch 0 is over", x.deliver(0), 3);
        Due.be("counted", x.results(1, 3), 1);
    }

    private static void promise16EpochAfterTheNext() {
        SessionSimulator x = changedKeys(1, 1);
        x.tick(3);
        Due.packet(x, 1, 0, 4, 1, 1, 0);
        Due.packet(x, 3, 0, 4, 1, 3, 0);
        Due.be("epoch 3 is too far", x.foresee(3), 3);
        Due.deliver(x, 2);
        Due.be("epoch 2", x.endpoint(1, 4), 2);
        Due.be("no previous window", x.endpoint(1, 10), 0);
        Due.be("nor its number", x.window(1, 1), Due.NONE);
        Due.be("epoch 1 is over", x.foresee(1), 3);
        Due.be("epoch 0, too", x.foresee(0), 3);
        Due.be("epoch 3 is near now", x.deliver(2), 0);
        Due.be("with a previous window", x.window(1, 1), 1);
        x.tick(2);
        Due.be("epoch 5", x.packet(x.count(0) - 1, 3), 5);
        Due.deliver(x, x.count(0) - 1);
        Due.be("the previous window is gone", x.endpoint(1, 10), 0);
    }

    private static void promise16EpochTooFar() {
        SessionSimulator x = changedKeys(1, 1);
        x.tick(3);
        x.alter(3, 1);
        Due.be("the epoch is looked at before the tag", x.deliver(3), 3);
        Due.be("epoch stays", x.endpoint(1, 4), 0);
        x.alter(2, 1);
        Due.be("the tag within reach", x.deliver(2), 4);
        Due.be("epoch stays", x.endpoint(1, 4), 0);
    }

    /** The finish is lost, and the first packet that arrives has the next epoch. */
    private static void promise16EmptyPrevious() {
        SessionSimulator x = new SessionSimulator();
        x.configure(1, 3, 20);
        x.connect(5);
        Due.deliver(x, 0, 0);
        x.repeat(0);
        x.drop(0);
        x.send(0, 1);
        Due.deliver(x, 1);
        Due.be("open without a finish", x.endpoint(1, 0), 3);
        Due.be("epoch 1", x.endpoint(1, 4), 1);
        Due.be("the previous one is empty", x.window(1, 1), -1);
        Due.be("but there", x.endpoint(1, 10), 1);
        Due.deliver(x, 0);
        Due.be("the finish is accepted late", x.window(1, 1), 1);
    }
}
