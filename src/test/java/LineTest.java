/** Promises 2 to 5: setGrid, jump, connect and setLoad. */
public final class LineTest {
    public static void main(String[] args) {
        setGrid();
        signal();
        jump();
        connect();
        islandVoltage();
        islandFrequency();
        islandFrequencyLimits();
        ranges();
        Check.end("LineTest");
    }

    private static void setGrid() {
        GridInverter x = new GridInverter();
        x.setGrid(400, 65000);
        Check.due("the line before the tick", Check.measures(x, 1, 2, 3), "[230, 50000, 0]");
        x.advance(1);
        Check.due("the line after the tick", Check.measures(x, 1, 2, 3), "[400, 65000, 65000]");
        x.setGrid(0, 45000);
        x.advance(2);
        Check.due("the line after 0, 45000", Check.measures(x, 1, 2, 3), "[0, 45000, 155000]");
        x.advance(19);
        Check.due("the angle goes round", x.measure(3), 10000);
    }

    private static void signal() {
        GridInverter x = new GridInverter();
        x.setGrid(20, 50004);
        x.advance(1);
        Check.due("loop with 20 V", Check.measures(x, 4, 5, 6, 7), "[50000, 50000, 4, 1]");
        x.setGrid(19, 50004);
        x.advance(1);
        Check.due("loop with 19 V", Check.measures(x, 4, 5, 6, 7), "[100000, 50000, 0, 0]");
        x.advance(18);
        Check.due("the estimated angle goes round", x.measure(4), 0);
        x.setGrid(20, 50000);
        x.advance(1);
        Check.due("loop with 20 V again", Check.measures(x, 4, 6, 7), "[50016, 80, 1]");
    }

    private static void jump() {
        GridInverter x = new GridInverter();
        Check.due("jump(-1)", x.jump(-1), 999999);
        Check.due("measure(3)", x.measure(3), 999999);
        Check.due("jump(1)", x.jump(1), 0);
        Check.due("jump(500000)", x.jump(500000), 500000);
        Check.due("jump(499999)", x.jump(499999), 999999);
        Check.due("jump(500000)", x.jump(500000), 499999);
        Check.due("jump(-500000)", x.jump(-500000), 999999);
        Check.due("jump(0)", x.jump(0), 999999);
        Check.due("all the rest", Check.measures(x, 0, 1, 2, 4, 5, 6, 7), "[0, 230, 50000, 0, 50000, 0, 0]");
        x.advance(1);
        Check.due("the line goes on from there", Check.measures(x, 3, 6), "[49999, -1]");
    }

    private static void connect() {
        GridInverter x = new GridInverter();
        x.setGrid(230, 50100);
        x.advance(1);
        Check.due("connect(false)", x.connect(false), true);
        Check.due("connect(false)", x.connect(false), false);
        Check.due("the line before the tick", Check.measures(x, 1, 2), "[230, 50100]");
        x.setGrid(240, 49000);
        x.advance(2);
        Check.due("an island without power", Check.measures(x, 1, 2, 3), "[0, 50100, 150300]");
        Check.due("connect(true)", x.connect(true), false);
        Check.due("connect(true)", x.connect(true), true);
        x.advance(1);
        Check.due("the line at the grid again", Check.measures(x, 1, 2, 3), "[240, 49000, 199300]");
    }

    /** Runs with this power, locked, at 50000. */
    static GridInverter running(int power) {
        GridInverter x = new GridInverter();
        x.setPower(1, power, power);
        x.setLock(100000, 1);
        x.advance(1);
        return x;
    }

    private static void islandVoltage() {
        int[][] cases = {{1000, 1, 400}, {1000, 575, 400}, {1000, 576, 399}, {1000, 1000, 230}, {1000, 5000, 46},
            {5000, 5000, 230}, {5000, 1, 400}, {1, 1, 230}, {1, 230, 1}, {1, 231, 0}, {100, 2300, 10}, {7, 80, 20}};
        for (int[] c : cases) {
            GridInverter x = running(c[0]);
            x.setLoad(c[1], 50000, 0);
            Check.due("voltage before the tick", x.measure(1), 230);
            x.connect(false);
            x.advance(1);
            Check.due("voltage with power " + c[0] + " and load " + c[1], x.measure(1), c[2]);
        }
    }

    private static int frequencyAfter(GridInverter x, int resonance, int quality) {
        x.setLoad(1000, resonance, quality);
        x.connect(false);
        x.advance(1);
        return x.measure(2);
    }

    private static GridInverter drifting(int shift, int gain) {
        GridInverter x = running(1000);
        x.setDrift(shift, gain);
        return x;
    }

    private static void islandFrequency() {
        Check.due("no pull", frequencyAfter(running(1000), 65000, 0), 50000);
        Check.due("quality 100", frequencyAfter(running(1000), 65000, 100), 65000);
        Check.due("quality 1", frequencyAfter(running(1000), 65000, 1), 50150);
        Check.due("-1 * 10 / 100 is 0", frequencyAfter(running(1000), 49999, 10), 50000);
        Check.due("-19 * 10 / 100 is -1", frequencyAfter(running(1000), 49981, 10), 49999);
        Check.due("19 * 10 / 100 is 1", frequencyAfter(running(1000), 50019, 10), 50001);
        Check.due("a shift of 500", frequencyAfter(drifting(500, 0), 50000, 0), 50125);
        Check.due("a shift of -500", frequencyAfter(drifting(-500, 0), 50000, 0), 49875);
        Check.due("3 / 4 is 0", frequencyAfter(drifting(3, 0), 50000, 0), 50000);
        Check.due("-3 / 4 is 0", frequencyAfter(drifting(-3, 0), 50000, 0), 50000);
        Check.due("-7 / 4 is -1", frequencyAfter(drifting(-7, 0), 50000, 0), 49999);
        Check.due("both pull", frequencyAfter(drifting(-7, 0), 50250, 2), 50004);
    }

    private static void islandFrequencyLimits() {
        GridInverter x = running(1000);
        x.setDrift(500, 100);
        x.setLoop(1000, 500);
        x.setLoad(1000, 50000, 0);
        x.connect(false);
        int highest = 0;
        for (int i = 0; i < 60; i++) {
            x.advance(1);
            highest = Math.max(highest, x.measure(2));
        }
        Check.due("the highest frequency of an island", highest, 70000);
        GridInverter y = running(1000);
        y.setDrift(-500, 100);
        y.setLoop(1000, 500);
        y.setLoad(1000, 50000, 0);
        y.connect(false);
        int lowest = 50000;
        for (int i = 0; i < 60; i++) {
            y.advance(1);
            lowest = Math.min(lowest, y.measure(2));
        }
        Check.due("the lowest frequency of an island", lowest, 40000);
    }

    private static void ranges() {
        Check.dueRange("setGrid voltage", 0, 400, Check::busy, (x, v) -> x.setGrid(v, 52000));
        Check.dueRange("setGrid frequency", 45000, 65000, Check::busy, (x, f) -> x.setGrid(120, f));
        Check.dueRange("jump", -500000, 500000, Check::busy, (x, by) -> x.jump(by));
        Check.dueRange("setLoad load", 1, 5000, Check::busy, (x, v) -> x.setLoad(v, 47000, 70));
        Check.dueRange("setLoad resonance", 45000, 65000, Check::busy, (x, v) -> x.setLoad(500, v, 70));
        Check.dueRange("setLoad quality", 0, 100, Check::busy, (x, v) -> x.setLoad(500, 47000, v));
    }
}
