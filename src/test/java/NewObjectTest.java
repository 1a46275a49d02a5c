/** Promise 1: the initial state, seen through the calls and through what the first ticks do. */
public final class NewObjectTest {
    public static void main(String[] args) {
        looks();
        lockTimeDelayRampAndRating();
        toleranceAndGains();
        window();
        island();
        ownState();
        Check.end("NewObjectTest");
    }

    private static void looks() {
        GridInverter x = new GridInverter();
        Check.due("measures", Check.measures(x, 0, 1, 2, 3, 4, 5, 6, 7, 8, 9),
                "[0, 230, 50000, 0, 0, 50000, 0, 0, 0, 0]");
        Check.due("state()", x.state(), GridInverter.WAITING);
        Check.due("isLocked()", x.isLocked(), false);
        Check.due("energy()", x.energy(), 0);
        Check.due("availability()", x.availability(), 0.0);
        Check.due("events()", x.events(), 0);
        Check.due("event(0, 0)", x.event(0, 0), GridInverter.NONE);
        Check.dueThrow("violations(0)", IndexOutOfBoundsException.class, () -> x.violations(0));
        Check.due("clearRules()", x.clearRules(), 0);
        Check.dueThrow("restore(0)", IllegalStateException.class, () -> x.restore(0));
        Check.dueThrow("restore(1)", IllegalStateException.class, () -> x.restore(1));
        Check.due("start()", x.start(), false);
        Check.due("connect(true)", x.connect(true), true);
    }

    private static void lockTimeDelayRampAndRating() {
        GridInverter x = new GridInverter();
        x.advance(99);
        Check.due("isLocked() after 99", x.isLocked(), false);
        x.advance(1);
        Check.due("isLocked() after 100", x.isLocked(), true);
        Check.due("ready count at the tick of the lock", x.measure(8), 1);
        x.advance(2000);
        x.advance(998);
        Check.due("state() after 3098", x.state(), GridInverter.WAITING);
        Check.due("ready count after 3098", x.measure(8), 2999);
        x.advance(1);
        Check.due("state() after 3099", x.state(), GridInverter.RUNNING);
        Check.due("power after 3099", x.measure(9), 10);
        x.advance(98);
        Check.due("power 98 ticks later", x.measure(9), 990);
        x.advance(1);
        Check.due("power 99 ticks later", x.measure(9), 1000);
        x.advance(1);
        Check.due("power 100 ticks later", x.measure(9), 1000);
    }

    private static void toleranceAndGains() {
        GridInverter within = new GridInverter();
        within.jump(5000);
        within.advance(1);
        Check.due("lock count with an error of 5000", within.measure(7), 1);
        Check.due("kp 200 and ki 20", Check.measures(within, 4, 5), "[51000, 50100]");
        GridInverter beyond = new GridInverter();
        beyond.jump(-5001);
        beyond.advance(1);
        Check.due("lock count with an error of -5001", beyond.measure(7), 0);
        Check.due("error, angle and frequency", Check.measures(beyond, 4, 5, 6), "[49000, 49900, -5001]");
    }

    /** The loop follows slowly, so that the frequency crosses a limit of the window. */
    private static void window() {
        for (int voltage : new int[] {207, 253}) {
            Check.due("ready count at " + voltage, readyAt(voltage), 1);
        }
        for (int voltage : new int[] {206, 254}) {
            Check.due("ready count at " + voltage, readyAt(voltage), 0);
        }
        Check.due("ready count at 51000", readyAfterError(1000), 1);
        Check.due("ready count at 51001", readyAfterError(1001), 0);
        Check.due("ready count at 49000", readyAfterError(-1000), 1);
        Check.due("ready count at 48999", readyAfterError(-1001), 0);
    }

    private static int readyAt(int voltage) {
        GridInverter x = new GridInverter();
        x.setLock(5000, 1);
        x.setGrid(voltage, 50000);
        x.advance(1);
        return x.measure(8);
    }

    /** With ki 500 twice the error moves the estimated frequency by just the error. */
    private static int readyAfterError(int by) {
        GridInverter x = new GridInverter();
        x.setLock(5000, 1);
        x.setLoop(1, 500);
        x.jump(by * 2);
        x.advance(1);
        Check.due("estimated frequency", x.measure(5), 50000 + by);
        return x.measure(8);
    }

    private static void island() {
        GridInverter x = new GridInverter();
        x.setPower(1, 1000, 1000);
        x.setLock(5000, 1);
        x.setGrid(230, 50100);
        x.advance(1);
        Check.due("running, estimated frequency", Check.measures(x, 9, 5), "[1000, 50002]");
        x.connect(false);
        x.advance(1);
        // 50100 + (50002 - 50100) / 4 + (50000 - 50100) * 10 / 100
        Check.due("island of 1000 W at 50000 with quality 10", Check.measures(x, 1, 2), "[230, 50066]");
        GridInverter y = new GridInverter();
        y.setPower(1, 1739, 1739);
        y.setLock(5000, 1);
        y.advance(1);
        y.connect(false);
        y.advance(1);
        // 399970 / 1000
        Check.due("load 1000", y.measure(1), 399);
        Check.due("no drift upwards", islandAfterError(2000), 50250);
        Check.due("no drift downwards", islandAfterError(-2000), 49750);
    }

    /** The estimated frequency is off by half the error; the frequency of the island follows by a quarter of that. */
    private static int islandAfterError(int by) {
        GridInverter x = new GridInverter();
        x.setPower(1, 1000, 1000);
        x.setLock(5000, 1);
        x.setLoop(1, 500);
        x.jump(by);
        x.advance(1);
        x.connect(false);
        x.advance(1);
        return x.measure(2);
    }

    private static void ownState() {
        GridInverter x = new GridInverter();
        GridInverter y = new GridInverter();
        x.setGrid(100, 60000);
        x.addRule(GridInverter.CHANGE, 1, 1);
        x.save(0);
        x.advance(7);
        Check.due("another object", Check.wholeOf(y), Check.wholeOf(new GridInverter()));
    }
}
