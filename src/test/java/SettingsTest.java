/** Promises 6 to 10: setLoop, setLock, setWindow, setPower and setDrift. */
public final class SettingsTest {
    public static void main(String[] args) {
        setLoop();
        loopLimits();
        setLock();
        setWindow();
        windowEnds();
        setPowerWhileWaiting();
        delayReachedOnlyWhenReady();
        rampReachesTheRating();
        setPowerWhileRunning();
        setDrift();
        gainIsTruncated();
        ranges();
        Check.end("SettingsTest");
    }

    /** The loop after a tick: estimated angle, estimated frequency and angle error. */
    private static String loopAfter(int kp, int ki, int jump) {
        GridInverter x = new GridInverter();
        x.setLoop(kp, ki);
        x.jump(jump);
        x.advance(1);
        return Check.measures(x, 4, 5, 6);
    }

    private static void setLoop() {
        Check.due("kp 1000, ki 500", loopAfter(1000, 500, 1000), "[51000, 50500, 1000]");
        Check.due("kp 1, ki 0", loopAfter(1, 0, 1000), "[50001, 50000, 1000]");
        Check.due("kp 1, ki 1, -1999", loopAfter(1, 1, -1999), "[49999, 49999, -1999]");
        Check.due("kp 1, ki 1, -999", loopAfter(1, 1, -999), "[50000, 50000, -999]");
        Check.due("kp 1, ki 1, 999", loopAfter(1, 1, 999), "[50000, 50000, 999]");
        Check.due("kp 3, ki 7, 1000", loopAfter(3, 7, 1000), "[50003, 50007, 1000]");
    }

    private static void loopLimits() {
        Check.due("error of half a turn", loopAfter(1000, 0, 500000), "[550000, 50000, -500000]");
        Check.due("error of minus half a turn", loopAfter(1000, 0, -500000), "[550000, 50000, -500000]");
        Check.due("the greatest error", loopAfter(1000, 0, 499999), "[549999, 50000, 499999]");
        Check.due("an error of -499999", loopAfter(1000, 0, -499999), "[550001, 50000, -499999]");
        Check.due("lowest estimate", loopAfter(1, 500, -500000), "[49500, 40000, -500000]");
        Check.due("highest estimate", loopAfter(1, 500, 499999), "[50499, 70000, 499999]");
        Check.due("40000 itself", loopAfter(1, 500, -20000), "[49980, 40000, -20000]");
        Check.due("70000 itself", loopAfter(1, 500, 40000), "[50040, 70000, 40000]");
        Check.due("69999", loopAfter(1, 500, 39998), "[50039, 69999, 39998]");
    }

    private static int lockCountAfter(int tolerance, int jump) {
        GridInverter x = new GridInverter();
        x.setLock(tolerance, 1);
        x.jump(jump);
        x.advance(1);
        Check.due("isLocked()", x.isLocked(), x.measure(7) == 1);
        return x.measure(7);
    }

    private static void setLock() {
        Check.due("100 in 100", lockCountAfter(100, 100), 1);
        Check.due("101 in 100", lockCountAfter(100, 101), 0);
        Check.due("-100 in 100", lockCountAfter(100, -100), 1);
        Check.due("-101 in 100", lockCountAfter(100, -101), 0);
        Check.due("100000 in 100000", lockCountAfter(100000, 100000), 1);
        Check.due("-100001 in 100000", lockCountAfter(100000, -100001), 0);
        Check.due("500000 in 100000", lockCountAfter(100000, 500000), 0);
        GridInverter x = new GridInverter();
        x.advance(50);
        x.setLock(200, 50);
        Check.due("locked at once", x.isLocked(), true);
        Check.due("the lock count stays", x.measure(7), 50);
        x.setLock(200, 51);
        Check.due("no longer locked", x.isLocked(), false);
        x.advance(1);
        Check.due("locked again", x.isLocked(), true);
        x.setLock(200, 500);
        x.advance(448);
        Check.due("not locked for 499", x.isLocked(), false);
        x.advance(1);
        Check.due("locked for 500", x.isLocked(), true);
        x.jump(201);
        x.advance(1);
        Check.due("the lock count starts anew", x.measure(7), 0);
    }

    /** The ready counts of a tick with each number from low - 1 to high + 1. */
    private static String readyCounts(int low, int high, boolean voltages) {
        StringBuilder seen = new StringBuilder();
        for (int number = low - 1; number <= high + 1; number++) {
            GridInverter x = new GridInverter();
            x.setLock(100000, 1);
            x.setLoop(1, 500);
            if (voltages) {
                x.setWindow(low, high, 50000, 50000);
                x.setGrid(number, 50000);
            } else {
                x.setWindow(230, 230, low, high);
                x.jump((number - 50000) * 2);
            }
            x.advance(1);
            seen.append(x.measure(8));
        }
        return seen.toString();
    }

    private static void setWindow() {
        Check.due("voltages 100 to 102", readyCounts(100, 102, true), "01110");
        Check.due("voltage 300", readyCounts(300, 300, true), "010");
        Check.due("frequencies 50300 to 50302", readyCounts(50300, 50302, false), "01110");
        Check.due("frequency 49000", readyCounts(49000, 49000, false), "010");
        GridInverter x = new GridInverter();
        x.setLock(5000, 1);
        x.advance(10);
        x.setWindow(231, 400, 40000, 70000);
        Check.due("the ready count stays", x.measure(8), 10);
        x.advance(1);
        Check.due("the ready count becomes 0", x.measure(8), 0);
        x.setWindow(0, 400, 40000, 70000);
        x.advance(1);
        Check.due("the ready count begins anew", x.measure(8), 1);
        x.setPower(2, 10, 10);
        x.advance(1);
        x.setWindow(0, 0, 40000, 40000);
        x.advance(5);
        Check.due("the window is nothing to a running inverter", x.state(), GridInverter.RUNNING);
    }

    /** The ready count of a tick at this voltage, in which the estimated frequency becomes this one. */
    private static int readyWith(int voltage, int frequency, int... window) {
        GridInverter x = new GridInverter();
        x.setLock(100000, 1);
        x.setLoop(1, 500);
        x.setWindow(window[0], window[1], window[2], window[3]);
        x.setGrid(voltage, 50000);
        x.jump((frequency - 50000) * 2);
        x.advance(1);
        Check.due("the estimated frequency", x.measure(5), frequency);
        return x.measure(8);
    }

    private static void windowEnds() {
        Check.due("0 to 400 at 20 V", readyWith(20, 50000, 0, 400, 40000, 70000), 1);
        Check.due("0 to 400 at 400 V", readyWith(400, 50000, 0, 400, 40000, 70000), 1);
        Check.due("0 to 400 at 19 V without a lock", readyWith(19, 50000, 0, 400, 40000, 70000), 0);
        Check.due("400 to 400 at 400 V", readyWith(400, 50000, 400, 400, 40000, 70000), 1);
        Check.due("400 to 400 at 399 V", readyWith(399, 50000, 400, 400, 40000, 70000), 0);
        Check.due("0 to 0 at 20 V", readyWith(20, 50000, 0, 0, 40000, 70000), 0);
        Check.due("0 to 399 at 400 V", readyWith(400, 50000, 0, 399, 40000, 70000), 0);
        Check.due("40000 to 70000 at 40000", readyWith(230, 40000, 0, 400, 40000, 70000), 1);
        Check.due("40000 to 70000 at 70000", readyWith(230, 70000, 0, 400, 40000, 70000), 1);
        Check.due("40000 to 40000 at 40000", readyWith(230, 40000, 0, 400, 40000, 40000), 1);
        Check.due("40000 to 40000 at 40001", readyWith(230, 40001, 0, 400, 40000, 40000), 0);
        Check.due("70000 to 70000 at 70000", readyWith(230, 70000, 0, 400, 70000, 70000), 1);
        Check.due("70000 to 70000 at 69999", readyWith(230, 69999, 0, 400, 70000, 70000), 0);
    }

    /** A ready count beyond a lowered delay is of no use in a tick that is not ready. */
    private static void delayReachedOnlyWhenReady() {
        GridInverter x = new GridInverter();
        x.setLock(5000, 1);
        x.advance(10);
        x.setPower(5, 10, 10);
        x.setGrid(206, 50000);
        x.advance(1);
        Check.due("state()", x.state(), GridInverter.WAITING);
        Check.due("ready count", x.measure(8), 0);
        x.setGrid(207, 50000);
        x.advance(4);
        Check.due("state() after 4", x.state(), GridInverter.WAITING);
        x.advance(1);
        Check.due("state() after 5", x.state(), GridInverter.RUNNING);
    }

    /** The powers of five ticks from the start on. */
    private static String powers(int ramp, int rating) {
        GridInverter x = new GridInverter();
        x.setLock(5000, 1);
        x.setPower(1, ramp, rating);
        StringBuilder seen = new StringBuilder();
        for (int i = 0; i < 5; i++) {
            x.advance(1);
            seen.append(x.measure(9)).append(' ');
        }
        return seen.toString();
    }

    private static void rampReachesTheRating() {
        Check.due("250 to 1000", powers(250, 1000), "250 500 750 1000 1000 ");
        Check.due("250 to 999", powers(250, 999), "250 500 750 999 999 ");
        Check.due("250 to 1001", powers(250, 1001), "250 500 750 1000 1001 ");
        Check.due("1 to 1", powers(1, 1), "1 1 1 1 1 ");
        Check.due("1 to 5000", powers(1, 5000), "1 2 3 4 5 ");
        Check.due("5000 to 1", powers(5000, 1), "1 1 1 1 1 ");
        Check.due("5000 to 5000", powers(5000, 5000), "5000 5000 5000 5000 5000 ");
        Check.due("4999 to 5000", powers(4999, 5000), "4999 5000 5000 5000 5000 ");
        GridInverter x = LineTest.running(1000);
        for (int rating : new int[] {1000, 999, 1}) {
            x.setPower(1, 5000, rating);
            x.advance(1);
            Check.due("the power with the rating " + rating, x.measure(9), rating);
            Check.due("state()", x.state(), GridInverter.RUNNING);
        }
    }

    private static void setPowerWhileWaiting() {
        GridInverter x = new GridInverter();
        x.setLock(5000, 1);
        x.setPower(20, 500, 300);
        x.advance(10);
        x.setPower(5, 500, 300);
        Check.due("the ready count and the state stay", Check.measures(x, 8, 9), "[10, 0]");
        Check.due("state()", x.state(), GridInverter.WAITING);
        x.advance(1);
        Check.due("the ramp, but at most the rating", Check.measures(x, 8, 9), "[11, 300]");
        Check.due("state()", x.state(), GridInverter.RUNNING);
        GridInverter y = new GridInverter();
        y.setLock(5000, 1);
        y.setPower(1, 1, 5000);
        y.advance(1);
        Check.due("restart delay 1", Check.measures(y, 8, 9), "[1, 1]");
        GridInverter z = new GridInverter();
        z.setLock(5000, 1);
        z.setPower(10000, 5000, 5000);
        for (int i = 0; i < 4; i++) {
            z.advance(2000);
        }
        z.advance(1999);
        Check.due("after 9999", Check.measures(z, 8, 9), "[9999, 0]");
        z.advance(1);
        Check.due("after 10000", Check.measures(z, 8, 9), "[10000, 5000]");
    }

    private static void setPowerWhileRunning() {
        GridInverter x = LineTest.running(1000);
        x.setPower(1, 7, 2000);
        Check.due("the power stays", x.measure(9), 1000);
        x.advance(1);
        Check.due("the new ramp", x.measure(9), 1007);
        x.setPower(1, 7, 1010);
        x.advance(1);
        Check.due("at most the rating", x.measure(9), 1010);
        x.setPower(1, 7, 400);
        Check.due("the power still stays", x.measure(9), 1010);
        x.advance(1);
        Check.due("the power becomes the rating", x.measure(9), 400);
        Check.due("energy()", x.energy(), 1000 + 1007 + 1010 + 400);
    }

    private static void setDrift() {
        GridInverter x = LineTest.running(1000);
        x.setLoop(1, 500);
        x.setLoad(1000, 50000, 0);
        x.setDrift(-400, 50);
        x.jump(599);
        x.advance(1);
        Check.due("no drift at the grid", Check.measures(x, 2, 5), "[50000, 50299]");
        x.connect(false);
        x.advance(1);
        // c is 50299 - 400 + 299 * 50 / 100 = 50048
        Check.due("the drift in an island", x.measure(2), 50012);
        GridInverter y = LineTest.running(1000);
        y.setLoop(1, 500);
        y.setLoad(1000, 50000, 0);
        y.setDrift(0, 9);
        y.jump(-598);
        y.advance(1);
        y.connect(false);
        y.advance(1);
        // c is 49701 + -299 * 9 / 100 = 49675, so that f becomes 50000 - 325 / 4
        Check.due("a gain below 50000", y.measure(2), 49919);
        GridInverter z = LineTest.running(1000);
        z.setLoop(1, 500);
        z.setLoad(1000, 50000, 0);
        z.setDrift(0, 100);
        z.jump(2000);
        z.advance(1);
        z.connect(false);
        z.advance(1);
        Check.due("a gain of 100 doubles the 1000", z.measure(2), 50500);
    }

    /** The frequency of an island after a tick in which the estimated frequency is this one, and f is 50000. */
    private static int driftedFrom(int estimate, int shift, int gain) {
        GridInverter x = LineTest.running(1000);
        x.setLoop(1, 500);
        x.setLoad(1000, 50000, 0);
        x.setDrift(shift, gain);
        x.jump((estimate - 50000) * 2);
        x.advance(1);
        Check.due("the estimated frequency", x.measure(5), estimate);
        x.connect(false);
        x.advance(1);
        return x.measure(2);
    }

    private static void gainIsTruncated() {
        // c is w + shift + (w - 50000) * gain / 100, and f becomes 50000 + (c - 50000) / 4.
        Check.due("-150 / 100 is -1", driftedFrom(49850, -1, 1), 49962);
        Check.due("-150 / 100 is -1, one less", driftedFrom(49850, 0, 1), 49963);
        Check.due("-50 / 100 is 0", driftedFrom(49950, -2, 1), 49987);
        Check.due("-50 / 100 is 0, one more", driftedFrom(49950, -1, 1), 49988);
        Check.due("150 / 100 is 1", driftedFrom(50150, 1, 1), 50038);
        Check.due("150 / 100 is 1, one less", driftedFrom(50150, 0, 1), 50037);
        Check.due("-99 / 100 is 0", driftedFrom(49999, -3, 99), 49999);
        Check.due("-99 / 100 is 0, two more", driftedFrom(49999, -2, 99), 50000);
    }

    private static void ranges() {
        Check.dueRange("setLoop kp", 1, 1000, Check::busy, (x, v) -> x.setLoop(v, 300));
        Check.dueRange("setLoop ki", 0, 500, Check::busy, (x, v) -> x.setLoop(700, v));
        Check.dueRange("setLock tolerance", 100, 100000, Check::busy, (x, v) -> x.setLock(v, 499));
        Check.dueRange("setLock ticks", 1, 500, Check::busy, (x, v) -> x.setLock(100, v));
        Check.dueRange("setWindow lowVoltage", 0, 400, Check::busy, (x, v) -> x.setWindow(v, 400, 41000, 42000));
        Check.dueRange("setWindow lowVoltage", 0, 10, Check::busy, (x, v) -> x.setWindow(v, 10, 41000, 42000));
        Check.dueRange("setWindow highVoltage", 9, 400, Check::busy, (x, v) -> x.setWindow(9, v, 41000, 42000));
        Check.dueRange("setWindow lowFrequency", 40000, 70000, Check::busy, (x, v) -> x.setWindow(0, 1, v, 70000));
        Check.dueRange("setWindow lowFrequency", 40000, 42000, Check::busy, (x, v) -> x.setWindow(0, 1, v, 42000));
        Check.dueRange("setWindow highFrequency", 41000, 70000, Check::busy, (x, v) -> x.setWindow(0, 1, 41000, v));
        Check.dueRange("setPower delay", 1, 10000, Check::busy, (x, v) -> x.setPower(v, 200, 300));
        Check.dueRange("setPower ramp", 1, 5000, Check::busy, (x, v) -> x.setPower(300, v, 300));
        Check.dueRange("setPower rating", 1, 5000, Check::busy, (x, v) -> x.setPower(300, 200, v));
        Check.dueRange("setDrift shift", -500, 500, Check::busy, (x, v) -> x.setDrift(v, 90));
        Check.dueRange("setDrift gain", 0, 100, Check::busy, (x, v) -> x.setDrift(400, v));
    }
}
