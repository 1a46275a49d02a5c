/** Promises 24 to 26: islandTime, undetected and relockTime. */
public final class WhatIfTest {
    public static void main(String[] args) {
        islandTimeAgainstTheIslandItself();
        islandTimeEdges();
        undetectedAgainstIslandTime();
        relockTimeAgainstTheJumpItself();
        islandFoundByTheEighthRule();
        undetectedUsesThePresentIsland();
        undetectedEdges();
        relockTimeEdges();
        relockTimeOfAnyState();
        nothingChanges();
        islandTimeExceptions();
        undetectedExceptions();
        relockTimeExceptions();
        Check.end("WhatIfTest");
    }

    /** Runs with 1000 W under rules for voltage, frequency and change. */
    private static GridInverter guarded() {
        GridInverter x = LineTest.running(1000);
        x.setLock(5000, 2);
        x.setDrift(40, 30);
        x.addRule(GridInverter.UNDER_VOLTAGE, 200, 4);
        x.addRule(GridInverter.OVER_VOLTAGE, 260, 2);
        x.addRule(GridInverter.OVER_FREQUENCY, 50600, 10);
        x.addRule(GridInverter.CHANGE, 90, 15);
        x.setGrid(228, 50030);
        x.advance(35);
        return x;
    }

    private static int realIslandTime(int load, int resonance, int quality, int limit) {
        GridInverter x = guarded();
        x.setLoad(load, resonance, quality);
        x.connect(false);
        for (int ticks = 1; ticks <= limit; ticks++) {
            x.advance(1);
            if (x.state() != GridInverter.RUNNING) {
                return ticks;
            }
        }
        return GridInverter.NONE;
    }

    private static void islandTimeAgainstTheIslandItself() {
        GridInverter x = guarded();
        int[][] islands = {{500, 50000, 10}, {800, 50000, 10}, {1000, 50000, 0}, {1000, 50000, 10}, {1000, 50030, 60},
            {1100, 50200, 1}, {1300, 50000, 10}, {5000, 45000, 100}, {1, 65000, 100}, {1000, 50010, 100}};
        for (int[] i : islands) {
            for (int limit : new int[] {1, 2, 10, 300}) {
                Check.due("islandTime(" + i[0] + ", " + i[1] + ", " + i[2] + ", " + limit + ")",
                        x.islandTime(i[0], i[1], i[2], limit), realIslandTime(i[0], i[1], i[2], limit));
            }
        }
    }

    private static void islandTimeEdges() {
        GridInverter x = LineTest.running(1000);
        x.addRule(GridInverter.OVER_VOLTAGE, 399, 2000);
        Check.due("islandTime with a limit of 2000", x.islandTime(1, 50000, 0, 2000), 2000);
        Check.due("islandTime with a limit of 1999", x.islandTime(1, 50000, 0, 1999), GridInverter.NONE);
        Check.due("the voltage of no trip", x.islandTime(1000, 50000, 0, 2000), GridInverter.NONE);
        GridInverter low = LineTest.running(1);
        Check.due("an island without a signal", low.islandTime(5000, 50000, 0, 1), 1);
        low.connect(false);
        Check.due("of an island already", low.islandTime(230, 50000, 0, 5), 1);
        low.setLoad(10, 50000, 0);
        low.advance(1);
        Check.due("of an island with a signal", low.islandTime(11, 50000, 0, 5), GridInverter.NONE);
        Check.due("of an island with less", low.islandTime(12, 50000, 0, 5), 1);
    }

    private static void undetectedAgainstIslandTime() {
        GridInverter x = guarded();
        x.setLoad(1234, 50030, 60);
        int missedInAll = 0;
        for (int first = 1; first <= 2000; first += 333) {
            for (int step : new int[] {1, 7, 80}) {
                int missed = 0;
                for (int i = 0; i < 5; i++) {
                    missed += x.islandTime(first + i * step, 50030, 60, 50) == GridInverter.NONE ? 1 : 0;
                }
                Check.due("undetected(" + first + ", " + step + ", 5, 50)", x.undetected(first, step, 5, 50), missed);
                missedInAll += missed;
            }
        }
        Check.due("some are missed", missedInAll > 5 && missedInAll < 100, true);
        GridInverter free = LineTest.running(1000);
        Check.due("ten loads without rules", free.undetected(500, 500, 10, 500), 10);
        Check.due("one load", free.undetected(5000, 500, 1, 1), 1);
        Check.due("nine loads up to 5000", free.undetected(1000, 500, 9, 2), 9);
        free.addRule(GridInverter.UNDER_VOLTAGE, 115, 500);
        // 230000 / load is below 115 from the load 2001 on.
        Check.due("found in the last tick", free.undetected(1998, 1, 10, 500), 3);
        Check.due("not found yet", free.undetected(1998, 1, 10, 499), 10);
    }

    private static void islandFoundByTheEighthRule() {
        GridInverter x = LineTest.running(1000);
        for (int i = 0; i < 8; i++) {
            Check.due("islandTime with " + i + " rules", x.islandTime(1000, 50000, 0, 9), GridInverter.NONE);
            x.addRule(GridInverter.UNDER_VOLTAGE, i == 7 ? 231 : 230, i == 7 ? 4 : 1);
        }
        Check.due("islandTime with 8 rules", x.islandTime(1000, 50000, 0, 9), 4);
        Check.due("undetected with 8 rules", x.undetected(999, 1, 2, 4), 0);
        Check.due("its counts stay", x.violations(7), 0);
    }

    /** The resonance pulls the estimated frequency over the threshold, the sooner the greater the quality. */
    private static void undetectedUsesThePresentIsland() {
        GridInverter x = LineTest.running(1000);
        x.addRule(GridInverter.OVER_FREQUENCY, 50100, 1);
        int[][] islands = {{50000, 10, 3}, {50000, 100, 3}, {65000, 0, 3}, {65000, 1, 0}, {65000, 100, 0},
            {45000, 100, 3}, {50100, 100, 3}};
        for (int[] i : islands) {
            x.setLoad(4000, i[0], i[1]);
            Check.due("undetected with the resonance " + i[0] + " and the quality " + i[1],
                    x.undetected(900, 100, 3, 20), i[2]);
        }
    }

    private static void undetectedEdges() {
        GridInverter x = LineTest.running(1000);
        Check.due("ten loads up to 4991", x.undetected(491, 500, 10, 1), 10);
        Check.due("ten loads up to 5000", x.undetected(500, 500, 10, 1), 10);
        Check.due("the least load", x.undetected(1, 1, 1, 1), 1);
        Check.due("the greatest load", x.undetected(5000, 1, 1, 500), 1);
        x.addRule(GridInverter.UNDER_VOLTAGE, 400, 1);
        // 230000 / load is at least 400 up to the load 575.
        Check.due("none is found", x.undetected(566, 1, 10, 1), 10);
        Check.due("one is found", x.undetected(567, 1, 10, 1), 9);
        Check.due("nine are found", x.undetected(575, 1, 10, 1), 1);
        Check.due("all are found", x.undetected(576, 1, 10, 1), 0);
        Check.due("the last one is found", x.undetected(575, 500, 2, 500), 1);
        Check.due("islandTime of the load 575", x.islandTime(575, 50000, 10, 500), GridInverter.NONE);
        Check.due("islandTime of the load 576", x.islandTime(576, 50000, 10, 500), 1);
    }

    private static int realRelockTime(int by, int limit) {
        GridInverter x = guarded();
        x.jump(by);
        int since = 0;
        for (int ticks = 1; ticks <= limit; ticks++) {
            x.advance(1);
            since = Math.abs(x.measure(6)) <= 5000 && x.measure(1) >= 20 ? since + 1 : 0;
            if (since >= 2) {
                return ticks;
            }
        }
        return GridInverter.NONE;
    }

    private static void relockTimeAgainstTheJumpItself() {
        GridInverter x = guarded();
        for (int by = -500000; by <= 500000; by += 62500) {
            Check.due("relockTime(" + by + ", 200)", x.relockTime(by, 200), realRelockTime(by, 200));
        }
        int ticks = x.relockTime(250000, 200);
        Check.due("within the limit", x.relockTime(250000, ticks), ticks);
        Check.due("beyond the limit", x.relockTime(250000, ticks - 1), GridInverter.NONE);
    }

    private static void relockTimeEdges() {
        GridInverter x = new GridInverter();
        x.advance(1000);
        Check.due("locked", x.isLocked(), true);
        Check.due("the lock count becomes 0", x.relockTime(0, 2000), 100);
        Check.due("in the last tick", x.relockTime(0, 100), 100);
        Check.due("too late", x.relockTime(0, 99), GridInverter.NONE);
        x.setLock(5000, 1);
        Check.due("lock time 1", x.relockTime(5000, 1), 1);
        Check.due("lock time 1", x.relockTime(-5001, 1), GridInverter.NONE);
        x.setLock(100000, 1);
        Check.due("tolerance 100000", x.relockTime(100000, 1), 1);
        x.setLock(100, 1);
        Check.due("tolerance 100", x.relockTime(101, 1), GridInverter.NONE);
        x.setGrid(0, 50000);
        Check.due("without a signal", x.relockTime(0, 2000), GridInverter.NONE);
        GridInverter island = LineTest.running(1000);
        island.setLock(5000, 3);
        island.connect(false);
        Check.due("an island loses its power with the lock", island.relockTime(0, 2000), GridInverter.NONE);
    }

    private static void relockTimeOfAnyState() {
        GridInverter waiting = new GridInverter();
        Check.due("of a new object", waiting.relockTime(0, 2000), 100);
        waiting.setLock(100, 500);
        Check.due("the longest lock time", waiting.relockTime(0, 500), 500);
        Check.due("the longest lock time", waiting.relockTime(0, 499), GridInverter.NONE);
        GridInverter stopped = stopped();
        Check.due("of a stopped one", stopped.relockTime(0, 3), 3);
        Check.due("it stays stopped", stopped.state(), GridInverter.STOPPED);
        GridInverter running = LineTest.running(1000);
        Check.due("of a running one", running.relockTime(100000, 1), 1);
        Check.due("half a turn", running.relockTime(500000, 1), GridInverter.NONE);
        Check.due("half a turn back", running.relockTime(-500000, 1), GridInverter.NONE);
        Check.due("it still runs, without an event", running.state() * 10 + running.events(), 11);
        Check.due("its angle and lock count", Check.measures(running, 0, 3, 7), "[1, 50000, 1]");
    }

    private static void nothingChanges() {
        GridInverter x = Check.busy();
        x.islandTime(300, 45000, 100, 2000);
        x.islandTime(1100, 50000, 0, 20);
        x.undetected(100, 90, 10, 500);
        x.relockTime(300000, 2000);
        x.relockTime(-1, 20);
        Check.due("after what-if calls", Check.wholeOf(x), Check.wholeOf(Check.busy()));
    }

    private static void islandTimeExceptions() {
        Check.dueRange("islandTime load", 1, 5000, Check::busy, (x, v) -> x.islandTime(v, 50000, 10, 10));
        Check.dueRange("islandTime resonance", 45000, 65000, Check::busy, (x, v) -> x.islandTime(500, v, 10, 10));
        Check.dueRange("islandTime quality", 0, 100, Check::busy, (x, v) -> x.islandTime(500, 50000, v, 10));
        Check.dueRange("islandTime limit", 1, 2000, Check::busy, (x, v) -> x.islandTime(500, 50000, 10, v));
        Check.dueThrowWithoutChange("islandTime while waiting", IllegalStateException.class, GridInverter::new,
                x -> x.islandTime(500, 50000, 10, 10));
        Check.dueThrowWithoutChange("islandTime while stopped", IllegalStateException.class, WhatIfTest::stopped,
                x -> x.islandTime(500, 50000, 10, 10));
        int[][] wrong = {{0, 50000, 10, 10}, {500, 44999, 10, 10}, {500, 50000, 101, 10}, {500, 50000, 10, 2001}};
        for (int[] w : wrong) {
            Check.dueThrowWithoutChange("wrong islandTime while waiting", IllegalArgumentException.class,
                    GridInverter::new, x -> x.islandTime(w[0], w[1], w[2], w[3]));
        }
    }

    private static GridInverter stopped() {
        GridInverter x = Check.busy();
        x.stop();
        return x;
    }

    private static void undetectedExceptions() {
        Check.dueRange("undetected first", 1, 5000, Check::busy, (x, v) -> x.undetected(v, 500, 1, 9));
        Check.dueRange("undetected first of three", 1, 4000, Check::busy, (x, v) -> x.undetected(v, 500, 3, 9));
        Check.dueRange("undetected step", 1, 500, Check::busy, (x, v) -> x.undetected(1, v, 1, 9));
        Check.dueRange("undetected step of ten", 1, 111, Check::busy, (x, v) -> x.undetected(4001, v, 10, 9));
        Check.dueRange("undetected count", 1, 10, Check::busy, (x, v) -> x.undetected(1, 1, v, 9));
        Check.dueRange("undetected count", 1, 4, Check::busy, (x, v) -> x.undetected(3500, 500, v, 9));
        Check.dueRange("undetected limit", 1, 500, Check::busy, (x, v) -> x.undetected(1, 1, 2, v));
        Check.dueThrowWithoutChange("undetected while waiting", IllegalStateException.class, GridInverter::new,
                x -> x.undetected(4500, 250, 3, 500));
        Check.dueThrowWithoutChange("undetected while stopped", IllegalStateException.class, WhatIfTest::stopped,
                x -> x.undetected(1, 1, 1, 1));
        int[][] wrong = {{0, 1, 1, 1}, {1, 0, 1, 1}, {1, 501, 1, 1}, {1, 1, 11, 1}, {1, 1, 1, 501}, {4501, 250, 3, 1},
            {Integer.MAX_VALUE, Integer.MAX_VALUE, 3, 1}, {1, 1 << 30, 5, 1}, {1, 1, Integer.MIN_VALUE, 1}};
        for (int[] w : wrong) {
            Check.dueThrowWithoutChange("wrong undetected while waiting", IllegalArgumentException.class,
                    GridInverter::new, x -> x.undetected(w[0], w[1], w[2], w[3]));
        }
    }

    private static void relockTimeExceptions() {
        Check.dueRange("relockTime by", -500000, 500000, Check::busy, (x, v) -> x.relockTime(v, 9));
        Check.dueRange("relockTime limit", 1, 2000, Check::busy, (x, v) -> x.relockTime(7, v));
    }
}
