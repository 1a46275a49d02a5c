/** Promises 11, 12 and 19: addRule, clearRules and violations, and what the rules do. */
public final class RulesTest {
    public static void main(String[] args) {
        voltageKinds();
        frequencyKinds();
        changeKind();
        changeLooksBackTwentyTicks();
        changeBeforeTheFirstTick();
        thresholdEnds();
        greatestChange();
        durations();
        lowestNumberWins();
        whenCountsMove();
        addAndClear();
        fullAgain();
        wrongArguments();
        Check.end("RulesTest");
    }

    /** The violation counts after one tick at the grid with this voltage. */
    private static void voltageKinds() {
        GridInverter x = LineTest.running(500);
        x.addRule(GridInverter.UNDER_VOLTAGE, 220, 100);
        x.addRule(GridInverter.OVER_VOLTAGE, 240, 100);
        int[][] cases = {{219, 1, 0}, {220, 0, 0}, {240, 0, 0}, {241, 0, 1}};
        for (int[] c : cases) {
            x.setGrid(c[0], 50000);
            x.advance(1);
            Check.due("UNDER_VOLTAGE at " + c[0], x.violations(0), c[1]);
            Check.due("OVER_VOLTAGE at " + c[0], x.violations(1), c[2]);
            x.setGrid(230, 50000);
            x.advance(1);
            Check.due("neither at 230", x.violations(0) + x.violations(1), 0);
        }
    }

    /** Runs, and after the next tick its estimated frequency is 50000 + by. */
    private static GridInverter movedBy(int by) {
        GridInverter x = LineTest.running(500);
        x.setLoop(1, 500);
        x.jump(by * 2);
        return x;
    }

    private static void frequencyKinds() {
        int[][] cases = {{-301, 1, 0}, {-300, 0, 0}, {0, 0, 0}, {200, 0, 0}, {201, 0, 1}};
        for (int[] c : cases) {
            GridInverter x = movedBy(c[0]);
            x.addRule(GridInverter.UNDER_FREQUENCY, 49700, 100);
            x.addRule(GridInverter.OVER_FREQUENCY, 50200, 100);
            x.advance(1);
            Check.due("estimated frequency", x.measure(5), 50000 + c[0]);
            Check.due("UNDER_FREQUENCY at " + x.measure(5), x.violations(0), c[1]);
            Check.due("OVER_FREQUENCY at " + x.measure(5), x.violations(1), c[2]);
        }
    }

    private static void changeKind() {
        int[][] cases = {{50, 0}, {51, 1}, {-50, 0}, {-51, 1}, {0, 0}};
        for (int[] c : cases) {
            GridInverter x = movedBy(c[0]);
            x.addRule(GridInverter.CHANGE, 50, 100);
            x.advance(1);
            Check.due("CHANGE by " + c[0], x.violations(0), c[1]);
        }
        GridInverter still = LineTest.running(500);
        still.addRule(GridInverter.CHANGE, 0, 1);
        still.advance(50);
        Check.due("events without a change", still.events(), 1);
        for (int by : new int[] {1, -1}) {
            GridInverter x = movedBy(by);
            x.addRule(GridInverter.CHANGE, 0, 100);
            x.advance(1);
            Check.due("CHANGE by " + by + " with the threshold 0", x.violations(0), 1);
        }
    }

    /** The estimated frequency leaps by 100 in one tick and stays there: the leap is seen for 20 ticks. */
    private static void changeLooksBackTwentyTicks() {
        GridInverter x = movedBy(100);
        x.addRule(GridInverter.CHANGE, 99, 100);
        x.advance(1);
        x.setGrid(19, 50000);
        x.setLock(100, 1);
        Check.due("estimated frequency", x.measure(5), 50100);
        Check.due("violations at the leap", x.violations(0), 1);
        holdFrequency(x);
        x.advance(19);
        Check.due("violations in the 20th tick", x.violations(0), 20);
        x.advance(1);
        Check.due("violations in the 21st tick", x.violations(0), 0);
        Check.due("estimated frequency", x.measure(5), 50100);
    }

    /** With the integral gain 0 the estimated frequency stays, and the tolerance keeps the lock. */
    private static void holdFrequency(GridInverter x) {
        x.setGrid(230, 50100);
        x.setLoop(1, 0);
        x.setLock(100000, 1);
    }

    private static void changeBeforeTheFirstTick() {
        GridInverter x = new GridInverter();
        x.setPower(1, 1, 1);
        x.setLock(100000, 1);
        x.setLoop(1, 500);
        x.setWindow(0, 400, 40000, 70000);
        x.addRule(GridInverter.CHANGE, 99, 10000);
        x.jump(200);
        x.advance(1);
        Check.due("the tick in which it starts counts none", x.violations(0), 0);
        holdFrequency(x);
        x.advance(19);
        Check.due("tick 20 is compared with tick 0", x.violations(0), 19);
        x.advance(1);
        Check.due("tick 21 is compared with tick 1", x.violations(0), 0);
    }

    /** The violation count of a rule after a running tick with this voltage and estimated frequency. */
    private static int violationsWith(int kind, int threshold, int voltage, int frequency) {
        GridInverter x = movedBy(frequency - 50000);
        x.addRule(kind, threshold, 10000);
        x.setGrid(voltage, 50000);
        x.advance(1);
        Check.due("the estimated frequency", x.measure(5), frequency);
        Check.due("state()", x.state(), GridInverter.RUNNING);
        return x.violations(0);
    }

    private static void thresholdEnds() {
        Check.due("20 V under 0", violationsWith(GridInverter.UNDER_VOLTAGE, 0, 20, 50000), 0);
        Check.due("20 V under 20", violationsWith(GridInverter.UNDER_VOLTAGE, 20, 20, 50000), 0);
        Check.due("20 V under 21", violationsWith(GridInverter.UNDER_VOLTAGE, 21, 20, 50000), 1);
        Check.due("400 V under 70000", violationsWith(GridInverter.UNDER_VOLTAGE, 70000, 400, 50000), 1);
        Check.due("20 V over 0", violationsWith(GridInverter.OVER_VOLTAGE, 0, 20, 50000), 1);
        Check.due("400 V over 399", violationsWith(GridInverter.OVER_VOLTAGE, 399, 400, 50000), 1);
        Check.due("400 V over 400", violationsWith(GridInverter.OVER_VOLTAGE, 400, 400, 50000), 0);
        Check.due("400 V over 70000", violationsWith(GridInverter.OVER_VOLTAGE, 70000, 400, 50000), 0);
        Check.due("40000 under 0", violationsWith(GridInverter.UNDER_FREQUENCY, 0, 230, 40000), 0);
        Check.due("40000 under 40000", violationsWith(GridInverter.UNDER_FREQUENCY, 40000, 230, 40000), 0);
        Check.due("40000 under 40001", violationsWith(GridInverter.UNDER_FREQUENCY, 40001, 230, 40000), 1);
        Check.due("69999 under 70000", violationsWith(GridInverter.UNDER_FREQUENCY, 70000, 230, 69999), 1);
        Check.due("70000 under 70000", violationsWith(GridInverter.UNDER_FREQUENCY, 70000, 230, 70000), 0);
        Check.due("40000 over 0", violationsWith(GridInverter.OVER_FREQUENCY, 0, 230, 40000), 1);
        Check.due("70000 over 69999", violationsWith(GridInverter.OVER_FREQUENCY, 69999, 230, 70000), 1);
        Check.due("70000 over 70000", violationsWith(GridInverter.OVER_FREQUENCY, 70000, 230, 70000), 0);
        Check.due("a change of 0 by 0", violationsWith(GridInverter.CHANGE, 0, 230, 50000), 0);
        Check.due("a change of 20000 by 19999", violationsWith(GridInverter.CHANGE, 19999, 230, 70000), 1);
        Check.due("a change of 20000 by 20000", violationsWith(GridInverter.CHANGE, 20000, 230, 70000), 0);
        Check.due("a change of -10000 by 9999", violationsWith(GridInverter.CHANGE, 9999, 230, 40000), 1);
        Check.due("a change of -10000 by 10000", violationsWith(GridInverter.CHANGE, 10000, 230, 40000), 0);
    }

    /** The estimated frequency is 40000 for 20 ticks and then 70000. */
    private static void greatestChange() {
        GridInverter x = movedBy(-10000);
        x.setLoop(1000, 500);
        x.advance(1);
        x.setLoop(1000, 0);
        x.advance(19);
        Check.due("estimate and error", Check.measures(x, 5, 6), "[40000, 10000]");
        x.addRule(GridInverter.CHANGE, 29999, 10000);
        x.addRule(GridInverter.CHANGE, 30000, 10000);
        x.addRule(GridInverter.CHANGE, 70000, 10000);
        x.setLoop(1000, 500);
        x.jump(50000);
        x.advance(1);
        Check.due("estimate and error", Check.measures(x, 5, 6), "[70000, 60000]");
        Check.due("a change of 30000 by 29999", x.violations(0), 1);
        Check.due("a change of 30000 by 30000", x.violations(1), 0);
        Check.due("a change of 30000 by 70000", x.violations(2), 0);
    }

    private static void durations() {
        GridInverter x = LineTest.running(500);
        x.addRule(GridInverter.OVER_VOLTAGE, 229, 1);
        x.advance(1);
        Check.due("duration 1", Check.measures(x, 8, 9), "[0, 0]");
        Check.due("state()", x.state(), GridInverter.WAITING);
        Check.due("its event", x.event(1, 0) * 1000 + x.event(1, 1), 2000);
        Check.due("energy()", x.energy(), 500);
        GridInverter y = LineTest.running(500);
        y.addRule(GridInverter.OVER_VOLTAGE, 229, 10000);
        for (int i = 0; i < 4; i++) {
            y.advance(2000);
        }
        y.advance(1999);
        Check.due("violations after 9999", y.violations(0), 9999);
        Check.due("state() after 9999", y.state(), GridInverter.RUNNING);
        y.advance(1);
        Check.due("violations after 10000", y.violations(0), 10000);
        Check.due("state() after 10000", y.state(), GridInverter.WAITING);
        GridInverter z = LineTest.running(500);
        z.addRule(GridInverter.OVER_VOLTAGE, 229, 3);
        for (int i = 0; i < 6; i++) {
            z.advance(2);
            z.setGrid(229, 50000);
            z.advance(1);
            z.setGrid(230, 50000);
        }
        Check.due("an interrupted violation begins anew", z.state(), GridInverter.RUNNING);
    }

    private static void lowestNumberWins() {
        GridInverter x = LineTest.running(500);
        x.addRule(GridInverter.UNDER_VOLTAGE, 100, 1);
        x.addRule(GridInverter.UNDER_VOLTAGE, 200, 2);
        x.addRule(GridInverter.UNDER_VOLTAGE, 201, 2);
        x.addRule(GridInverter.OVER_VOLTAGE, 100, 2);
        x.setGrid(150, 50000);
        x.advance(2);
        Check.due("the cause", x.event(1, 1), 1);
        Check.due("all rules count in the tick of the trip", x.violations(0) * 1000 + x.violations(1) * 100
                + x.violations(2) * 10 + x.violations(3), 222);
    }

    private static void whenCountsMove() {
        GridInverter x = LineTest.running(500);
        x.addRule(GridInverter.OVER_VOLTAGE, 220, 100);
        Check.due("violations of a new rule", x.violations(0), 0);
        x.advance(3);
        Check.due("violations while running", x.violations(0), 3);
        x.setLock(100, 1);
        x.jump(300000);
        x.advance(1);
        Check.due("the cause", x.event(1, 1), GridInverter.LOST_LOCK);
        Check.due("violations after the lock was lost", x.violations(0), 3);
        x.setPower(9000, 1, 1);
        x.setGrid(210, 50000);
        x.advance(500);
        Check.due("violations while waiting", x.violations(0), 3);
        Check.due("locked again", x.isLocked(), true);
        x.setPower(1, 1, 1);
        x.setGrid(230, 50000);
        x.advance(1);
        Check.due("running again", x.state(), GridInverter.RUNNING);
        Check.due("violations in the tick of the start", x.violations(0), 0);
        x.advance(2);
        x.stop();
        x.advance(3);
        Check.due("violations while stopped", x.violations(0), 2);
    }

    private static void addAndClear() {
        GridInverter x = LineTest.running(500);
        for (int i = 0; i < 8; i++) {
            Check.due("addRule", x.addRule(GridInverter.OVER_VOLTAGE, 229, i == 7 ? 1 : 10000), i);
        }
        Check.dueThrow("a ninth rule", IllegalStateException.class,
                () -> x.addRule(GridInverter.OVER_VOLTAGE, 229, 1));
        Check.due("violations(7)", x.violations(7), 0);
        x.advance(1);
        Check.due("the eighth rule trips", x.event(1, 1), 7);
        Check.due("violations(6)", x.violations(6), 1);
        Check.due("clearRules()", x.clearRules(), 8);
        Check.due("clearRules()", x.clearRules(), 0);
        Check.dueThrow("violations(0)", IndexOutOfBoundsException.class, () -> x.violations(0));
        x.advance(2);
        Check.due("without rules it goes on", x.state(), GridInverter.RUNNING);
        Check.due("addRule", x.addRule(GridInverter.UNDER_VOLTAGE, 0, 1), 0);
        Check.due("violations of the new rule", x.violations(0), 0);
        Check.dueThrow("violations(1)", IndexOutOfBoundsException.class, () -> x.violations(1));
        Check.due("addRule", x.addRule(GridInverter.OVER_FREQUENCY, 70000, 10000), 1);
        Check.due("clearRules()", x.clearRules(), 2);
        x.addRule(GridInverter.OVER_VOLTAGE, 200, 100);
        x.advance(2);
        Check.due("violations(0)", x.violations(0), 2);
        x.clearRules();
        x.addRule(GridInverter.OVER_VOLTAGE, 200, 3);
        Check.due("violations of a rule in the place of another", x.violations(0), 0);
        x.advance(2);
        Check.due("state()", x.state(), GridInverter.RUNNING);
    }

    private static void fullAgain() {
        GridInverter x = new GridInverter();
        for (int round = 0; round < 3; round++) {
            Check.dueThrow("violations(0) of none", IndexOutOfBoundsException.class, () -> x.violations(0));
            for (int i = 0; i < 8; i++) {
                Check.due("addRule", x.addRule(i % 5, 70000, 1), i);
                int next = i + 1;
                Check.due("violations(" + i + ")", x.violations(i), 0);
                Check.dueThrow("violations(" + next + ")", IndexOutOfBoundsException.class, () -> x.violations(next));
            }
            Check.dueThrow("a ninth rule", IllegalStateException.class, () -> x.addRule(0, 70000, 1));
            Check.due("the eighth rule stays", x.violations(7), 0);
            Check.due("clearRules()", x.clearRules(), 8);
        }
    }

    private static GridInverter full() {
        GridInverter x = Check.busy();
        for (int i = 2; i < 8; i++) {
            x.addRule(GridInverter.UNDER_VOLTAGE, 100 + i, 3);
        }
        return x;
    }

    private static void wrongArguments() {
        Check.dueRange("addRule kind", 0, 4, Check::busy, (x, v) -> x.addRule(v, 100, 100));
        Check.dueRange("addRule threshold", 0, 70000, Check::busy, (x, v) -> x.addRule(0, v, 100));
        Check.dueRange("addRule duration", 1, 10000, Check::busy, (x, v) -> x.addRule(0, 100, v));
        Check.dueThrowWithoutChange("a ninth rule", IllegalStateException.class, RulesTest::full,
                x -> x.addRule(0, 300, 1));
        Check.dueThrowWithoutChange("a wrong ninth rule", IllegalArgumentException.class, RulesTest::full,
                x -> x.addRule(5, 300, 1));
        Check.dueThrowWithoutChange("a wrong ninth rule", IllegalArgumentException.class, RulesTest::full,
                x -> x.addRule(0, 70001, 1));
        Check.dueThrowWithoutChange("a wrong ninth rule", IllegalArgumentException.class, RulesTest::full,
                x -> x.addRule(0, 300, 0));
        for (int rule : new int[] {-1, 2, 8, Integer.MIN_VALUE, Integer.MAX_VALUE}) {
            Check.dueThrowWithoutChange("violations(" + rule + ")", IndexOutOfBoundsException.class, Check::busy,
                    x -> x.violations(rule));
        }
    }
}
