/** Promises 13 to 17: start, stop, advance, state and isLocked, and the order of a tick. */
public final class OperationTest {
    public static void main(String[] args) {
        stopWhileRunning();
        stopWhileWaiting();
        stopped();
        advance();
        lostLock();
        lockLimits();
        lockTimeRaisedWhileRunning();
        inOneTickAtMostOneEvent();
        lostLockComesBeforeRules();
        restart();
        powerOfTheTickBefore();
        Check.end("OperationTest");
    }

    private static void stopWhileRunning() {
        GridInverter x = LineTest.running(500);
        x.advance(4);
        Check.due("state()", x.state(), GridInverter.RUNNING);
        Check.due("start() while running", x.start(), false);
        Check.due("state()", x.state(), GridInverter.RUNNING);
        Check.due("stop()", x.stop(), true);
        Check.due("state()", x.state(), GridInverter.STOPPED);
        Check.due("power and ready count", Check.measures(x, 8, 9), "[1, 0]");
        Check.due("events()", x.events(), 2);
        Check.due("event(1, 0)", x.event(1, 0), 5);
        Check.due("event(1, 1)", x.event(1, 1), GridInverter.BY_CALL);
        Check.due("stop() again", x.stop(), false);
        Check.due("events()", x.events(), 2);
    }

    private static void stopWhileWaiting() {
        GridInverter x = new GridInverter();
        x.setLock(5000, 1);
        x.advance(6);
        Check.due("start() while waiting", x.start(), false);
        Check.due("the ready count stays", x.measure(8), 6);
        Check.due("stop()", x.stop(), false);
        Check.due("stop() while stopped", x.stop(), false);
        Check.due("state()", x.state(), GridInverter.STOPPED);
        Check.due("events()", x.events(), 0);
        Check.due("the ready count stays", x.measure(8), 6);
        Check.due("start()", x.start(), true);
        Check.due("state()", x.state(), GridInverter.WAITING);
        Check.due("the ready count becomes 0", x.measure(8), 0);
    }

    private static void stopped() {
        GridInverter x = LineTest.running(500);
        x.stop();
        x.advance(100);
        Check.due("it stays STOPPED", x.state(), GridInverter.STOPPED);
        Check.due("energy()", x.energy(), 500);
        Check.due("no ready count, no power", Check.measures(x, 7, 8, 9), "[101, 1, 0]");
        x.jump(300000);
        x.advance(1);
        Check.due("no trip", x.events(), 2);
        Check.due("start()", x.start(), true);
        Check.due("ready count and power after start()", Check.measures(x, 8, 9), "[0, 0]");
        Check.due("start()", x.start(), false);
        Check.due("no event", x.events(), 2);
    }

    private static void advance() {
        GridInverter x = new GridInverter();
        Check.due("advance(1)", x.advance(1), 1);
        Check.due("advance(2000)", x.advance(2000), 2001);
        Check.due("measure(0)", x.measure(0), 2001);
        GridInverter y = new GridInverter();
        for (int i = 0; i < 2001 / 23; i++) {
            y.advance(23);
        }
        Check.due("the same ticks in many calls", Check.lookAt(y), Check.lookAt(x));
        Check.dueRange("advance", 1, 2000, Check::busy, (z, ticks) -> z.advance(ticks));
    }

    private static void lostLock() {
        GridInverter x = LineTest.running(500);
        x.setLock(5000, 2);
        Check.due("isLocked() by another lock time", x.isLocked(), false);
        Check.due("no trip before the tick", x.state(), GridInverter.RUNNING);
        x.advance(1);
        Check.due("locked in time", x.state(), GridInverter.RUNNING);
        x.jump(5001);
        x.advance(1);
        Check.due("isLocked()", x.isLocked(), false);
        Check.due("state()", x.state(), GridInverter.WAITING);
        Check.due("power and ready count", Check.measures(x, 8, 9), "[0, 0]");
        Check.due("event(1, 0)", x.event(1, 0), 3);
        Check.due("event(1, 1)", x.event(1, 1), GridInverter.LOST_LOCK);
        Check.due("energy()", x.energy(), 1000);
    }

    private static void lockLimits() {
        int[][] cases = {{4999, 1}, {5000, 1}, {5001, 0}, {-4999, 1}, {-5000, 1}, {-5001, 0}, {499999, 0}, {-500000, 0}};
        for (int[] c : cases) {
            GridInverter x = LineTest.running(500);
            x.setLock(5000, 1);
            x.jump(c[0]);
            x.advance(1);
            Check.due("the angle error", x.measure(6), c[0]);
            Check.due("still running with an error of " + c[0], x.state(), c[1]);
            Check.due("isLocked()", x.isLocked(), c[1] == 1);
        }
        for (int voltage : new int[] {0, 19, 20, 400}) {
            GridInverter x = LineTest.running(500);
            x.setGrid(voltage, 50000);
            x.advance(1);
            Check.due("still running at " + voltage + " V", x.state() == GridInverter.RUNNING, voltage >= 20);
        }
    }

    private static void lockTimeRaisedWhileRunning() {
        for (int ticks : new int[] {4, 5, 500}) {
            GridInverter x = LineTest.running(500);
            x.advance(2);
            x.setLock(100000, ticks);
            x.advance(1);
            Check.due("the lock count", x.measure(7), 4);
            Check.due("running with the lock time " + ticks, x.state() == GridInverter.RUNNING, ticks == 4);
            Check.due("its events", x.events(), ticks == 4 ? 1 : 2);
        }
    }

    /** A tick begins in one state: it starts or trips, but never both. */
    private static void inOneTickAtMostOneEvent() {
        GridInverter x = new GridInverter();
        x.setPower(1, 500, 500);
        x.setLock(5000, 1);
        x.addRule(GridInverter.OVER_VOLTAGE, 0, 1);
        for (int time = 1; time <= 6; time++) {
            x.advance(1);
            Check.due("events() at " + time, x.events(), time);
            Check.due("state() at " + time, x.state(), time % 2 == 1 ? GridInverter.RUNNING : GridInverter.WAITING);
            Check.due("the time of the event", x.event(time - 1, 0), time);
        }
        Check.due("the energy of three ticks", x.energy(), 1500);
    }

    private static void lostLockComesBeforeRules() {
        GridInverter x = LineTest.running(500);
        x.addRule(GridInverter.UNDER_VOLTAGE, 100, 1);
        x.setGrid(19, 50000);
        x.advance(1);
        Check.due("the cause", x.event(1, 1), GridInverter.LOST_LOCK);
        Check.due("violations(0)", x.violations(0), 0);
    }

    /** A tick in which it trips does not count as ready, though the restart delay is 1. */
    private static void restart() {
        GridInverter x = LineTest.running(500);
        x.addRule(GridInverter.OVER_VOLTAGE, 100, 2);
        x.advance(2);
        Check.due("tripped", x.state(), GridInverter.WAITING);
        x.advance(1);
        Check.due("running again", x.state(), GridInverter.RUNNING);
        Check.due("time, ready count and power", Check.measures(x, 0, 8, 9), "[4, 1, 500]");
        Check.due("energy()", x.energy(), 500 + 500 + 500);
        x.advance(300);
        Check.due("each third tick it starts", x.events(), 1 + 2 * 101);
        Check.due("availability()", x.availability(), 203.0 / 304.0);
    }

    /** The voltage of an island follows from the power at the end of the tick before. */
    private static void powerOfTheTickBefore() {
        GridInverter x = LineTest.running(100);
        x.setPower(1, 200, 1000);
        x.setLoad(230, 50000, 0);
        x.connect(false);
        StringBuilder seen = new StringBuilder();
        for (int i = 0; i < 3; i++) {
            x.advance(1);
            seen.append(x.measure(1)).append(' ').append(x.measure(9)).append(' ');
        }
        Check.due("voltages and powers", seen.toString(), "100 300 300 500 400 700 ");
        x.stop();
        x.advance(1);
        Check.due("an island without power", Check.measures(x, 1, 2, 7), "[0, 50000, 0]");
    }
}
