/** Promises 2 to 5: setGrid, jump, connect and setLoad. */
public final class LineTest {
    public static void main(String[] args) {
        setGrid();
        signal();
        jump();
        lineAngleGoesRound();
        estimatedAngleGoesRound();
        estimatedAngleGoesRoundWithoutSignal();
        errorOfMoreThanATurn();
        connect();
        islandVoltage();
        islandFrequency();
        islandFrequencyLimits();
        islandFrequencyOverTicks();
        islandFrequencyReachesItsLimits();
        onlyTheSumIsLimited();
        islandWithoutPowerKeepsItsFrequency();
        ranges();
        Check.end("LineTest");
    }

    private static void setGrid() {
        GridInverter x = new GridInverter();
        x.setGrid(400, 65000);
        Check.due("the line before the tick", Check.measures(x, 1, 2, 3), "[230, 50000, 0]");
        x.advance(1);
        Check.due("the line after the tick", Check.measures(x, 1, 2, 3), "[400, 65000, 65000]");
        x.setGrid(0, 45000);
        x.advance(2);
        Check.due("the line after 0, 45000", Check.measures(x, 1, 2, 3), "[0, 45000, 155000]");
        x.advance(19);
        Check.due("the angle goes round", x.measure(3), 10000);
    }

    private static void signal() {
        GridInverter x = new GridInverter();
        x.setGrid(20, 50004);
        x.advance(1);
        Check.due("loop with 20 V", Check.measures(x, 4, 5, 6, 7), "[50000, 50000, 4, 1]");
        x.setGrid(19, 50004);
        x.advance(1);
        Check.due("loop with 19 V", Check.measures(x, 4, 5, 6, 7), "[100000, 50000, 0, 0]");
        x.advance(18);
        Check.due("the estimated angle goes round", x.measure(4), 0);
        x.setGrid(20, 50000);
        x.advance(1);
        Check.due("loop with 20 V again", Check.measures(x, 4, 6, 7), "[50016, 80, 1]");
    }

    private static void jump() {
        GridInverter x = new GridInverter();
        Check.due("jump(-1)", x.jump(-1), 999999);
        Check.due("measure(3)", x.measure(3), 999999);
        Check.due("jump(1)", x.jump(1), 0);
        Check.due("jump(500000)", x.jump(500000), 500000);
        Check.due("jump(499999)", x.jump(499999), 999999);
        Check.due("jump(500000)", x.jump(500000), 499999);
        Check.due("jump(-500000)", x.jump(-500000), 999999);
        Check.due("jump(0)", x.jump(0), 999999);
        Check.due("all the rest", Check.measures(x, 0, 1, 2, 4, 5, 6, 7), "[0, 230, 50000, 0, 50000, 0, 0]");
        x.advance(1);
        Check.due("the line goes on from there", Check.measures(x, 3, 6), "[49999, -1]");
    }

    private static void lineAngleGoesRound() {
        int[][] cases = {{50000, -50001, 999999}, {50000, -50000, 0}, {50000, -49999, 1}, {65000, -1, 64999},
            {45000, -45001, 999999}, {45000, -45000, 0}};
        for (int[] c : cases) {
            GridInverter x = new GridInverter();
            x.setGrid(230, c[0]);
            x.jump(c[1]);
            x.advance(1);
            Check.due("the angle after jump(" + c[1] + ") and a tick of " + c[0], x.measure(3), c[2]);
        }
    }

    /** With kp 1000 the estimated angle becomes that of the line: upwards in tick 20, downwards in tick 1. */
    private static void estimatedAngleGoesRound() {
        int[][] upwards = {{-500000, 500000}, {-1, 999999}, {0, 0}, {1, 1}, {499999, 499999}};
        for (int[] c : upwards) {
            GridInverter x = new GridInverter();
            x.setLoop(1000, 0);
            x.advance(19);
            x.jump(c[0]);
            x.advance(1);
            Check.due("tick 20 after jump(" + c[0] + ")", Check.measures(x, 3, 4, 6),
                    "[" + c[1] + ", " + c[1] + ", " + c[0] + "]");
        }
        int[][] downwards = {{-50001, 999999}, {-50000, 0}, {-49999, 1}};
        for (int[] c : downwards) {
            GridInverter x = new GridInverter();
            x.setLoop(1000, 0);
            x.jump(c[0]);
            x.advance(1);
            Check.due("tick 1 after jump(" + c[0] + ")", Check.measures(x, 3, 4, 6),
                    "[" + c[1] + ", " + c[1] + ", " + c[0] + "]");
        }
    }

    private static void estimatedAngleGoesRoundWithoutSignal() {
        int[][] cases = {{-100001, 999999}, {-100000, 0}, {-99999, 1}};
        for (int[] c : cases) {
            GridInverter x = new GridInverter();
            x.setLoop(1000, 0);
            x.jump(c[0]);
            x.advance(1);
            x.setGrid(19, 50000);
            x.advance(1);
            Check.due("without a signal after jump(" + c[0] + ")", Check.measures(x, 4, 5, 6),
                    "[" + c[1] + ", 50000, 0]");
        }
    }

    /** The greatest distances of the two angles: 0 from 999999 + 70000, and 999999 from 0 + 40000. */
    private static void errorOfMoreThanATurn() {
        GridInverter x = new GridInverter();
        tickWith(x, 500, 40000);
        tickWith(x, 0, -140001);
        Check.due("before the lowest distance", Check.measures(x, 3, 4, 5, 6), "[999999, 999999, 70000, -160001]");
        tickWith(x, 0, -49999);
        Check.due("0 from 1069999", Check.measures(x, 3, 4, 5, 6), "[0, 0, 70000, -69999]");
        GridInverter y = new GridInverter();
        tickWith(y, 500, -20000);
        tickWith(y, 0, -80000);
        Check.due("before the highest distance", Check.measures(y, 3, 4, 5, 6), "[0, 0, 40000, -70000]");
        tickWith(y, 0, -50001);
        Check.due("999999 from 40000", Check.measures(y, 3, 4, 5, 6), "[999999, 999999, 40000, -40001]");
    }

    private static void tickWith(GridInverter x, int ki, int jump) {
        x.setLoop(1000, ki);
        x.jump(jump);
        x.advance(1);
    }

    private static void connect() {
        GridInverter x = new GridInverter();
        x.setGrid(230, 50100);
        x.advance(1);
        Check.due("connect(false)", x.connect(false), true);
        Check.due("connect(false)", x.connect(false), false);
        Check.due("the line before the tick", Check.measures(x, 1, 2), "[230, 50100]");
        x.setGrid(240, 49000);
        x.advance(2);
        Check.due("an island without power", Check.measures(x, 1, 2, 3), "[0, 50100, 150300]");
        Check.due("connect(true)", x.connect(true), false);
        Check.due("the line before the tick", Check.measures(x, 1, 2, 3), "[0, 50100, 150300]");
        Check.due("connect(true)", x.connect(true), true);
        x.advance(1);
        Check.due("the line at the grid again", Check.measures(x, 1, 2, 3), "[240, 49000, 199300]");
    }

    /** Runs with this power, locked, at 50000. */
    static GridInverter running(int power) {
        GridInverter x = new GridInverter();
        x.setPower(1, power, power);
        x.setLock(100000, 1);
        x.advance(1);
        return x;
    }

    private static void islandVoltage() {
        int[][] cases = {{1000, 1, 400}, {1000, 575, 400}, {1000, 576, 399}, {1000, 1000, 230}, {1000, 5000, 46},
            {5000, 5000, 230}, {5000, 1, 400}, {1, 1, 230}, {1, 230, 1}, {1, 231, 0}, {100, 2300, 10}, {7, 80, 20}};
        for (int[] c : cases) {
            GridInverter x = running(c[0]);
            x.setLoad(c[1], 50000, 0);
            Check.due("voltage before the tick", x.measure(1), 230);
            x.connect(false);
            x.advance(1);
            Check.due("voltage with power " + c[0] + " and load " + c[1], x.measure(1), c[2]);
        }
    }

    private static int frequencyAfter(GridInverter x, int resonance, int quality) {
        x.setLoad(1000, resonance, quality);
        x.connect(false);
        x.advance(1);
        return x.measure(2);
    }

    private static GridInverter drifting(int shift, int gain) {
        GridInverter x = running(1000);
        x.setDrift(shift, gain);
        return x;
    }

    private static void islandFrequency() {
        Check.due("no pull", frequencyAfter(running(1000), 65000, 0), 50000);
        Check.due("quality 100", frequencyAfter(running(1000), 65000, 100), 65000);
        Check.due("quality 100 and the lowest resonance", frequencyAfter(running(1000), 45000, 100), 45000);
        Check.due("quality 0 and the lowest resonance", frequencyAfter(running(1000), 45000, 0), 50000);
        Check.due("quality 1", frequencyAfter(running(1000), 65000, 1), 50150);
        Check.due("-1 * 10 / 100 is 0", frequencyAfter(running(1000), 49999, 10), 50000);
        Check.due("-19 * 10 / 100 is -1", frequencyAfter(running(1000), 49981, 10), 49999);
        Check.due("19 * 10 / 100 is 1", frequencyAfter(running(1000), 50019, 10), 50001);
        Check.due("a shift of 500", frequencyAfter(drifting(500, 0), 50000, 0), 50125);
        Check.due("a shift of -500", frequencyAfter(drifting(-500, 0), 50000, 0), 49875);
        Check.due("3 / 4 is 0", frequencyAfter(drifting(3, 0), 50000, 0), 50000);
        Check.due("-3 / 4 is 0", frequencyAfter(drifting(-3, 0), 50000, 0), 50000);
        Check.due("-7 / 4 is -1", frequencyAfter(drifting(-7, 0), 50000, 0), 49999);
        Check.due("both pull", frequencyAfter(drifting(-7, 0), 50250, 2), 50004);
    }

    private static void islandFrequencyLimits() {
        GridInverter x = running(1000);
        x.setDrift(500, 100);
        x.setLoop(1000, 500);
        x.setLoad(1000, 50000, 0);
        x.connect(false);
        int highest = 0;
        for (int i = 0; i < 60; i++) {
            x.advance(1);
            highest = Math.max(highest, x.measure(2));
        }
        Check.due("the highest frequency of an island", highest, 70000);
        GridInverter y = running(1000);
        y.setDrift(-500, 100);
        y.setLoop(1000, 500);
        y.setLoad(1000, 50000, 0);
        y.connect(false);
        int lowest = 50000;
        for (int i = 0; i < 60; i++) {
            y.advance(1);
            lowest = Math.min(lowest, y.measure(2));
        }
        Check.due("the lowest frequency of an island", lowest, 40000);
    }

    /** The frequency of an island after one tick: it comes from this grid, after this angle error. */
    private static int islandAfter(int gridFrequency, int error, int shift, int resonance, int quality) {
        return islanded(gridFrequency, error, shift, resonance, quality).measure(2);
    }

    private static GridInverter islanded(int gridFrequency, int error, int shift, int resonance, int quality) {
        GridInverter x = new GridInverter();
        x.setPower(1, 1000, 1000);
        x.setLock(100000, 1);
        x.setLoop(1, 500);
        x.setWindow(0, 400, 40000, 70000);
        x.setGrid(230, gridFrequency);
        x.jump(error - (gridFrequency - 50000));
        x.advance(1);
        Check.due("the angle error", x.measure(6), error);
        x.setDrift(shift, 100);
        x.setLoad(1000, resonance, quality);
        x.setLoop(1, 0);
        x.connect(false);
        x.advance(1);
        return x;
    }

    /** The estimated frequency stays at 50000; c is 50400, and the grid is nothing to an island. */
    private static void islandFrequencyOverTicks() {
        GridInverter x = drifting(400, 0);
        x.setLoop(1, 0);
        x.setLoad(1000, 51000, 0);
        x.setGrid(0, 60000);
        x.connect(false);
        int angle = x.measure(3);
        for (int due : new int[] {50100, 50175, 50231, 50273}) {
            x.advance(1);
            angle += due;
            Check.due("voltage, frequency and angle", Check.measures(x, 1, 2, 3), "[230, " + due + ", " + angle + "]");
        }
        x.setLoad(1000, 51000, 10);
        x.advance(1);
        // 50273 + 127 / 4 + 727 * 10 / 100
        Check.due("the pull of the resonance", x.measure(2), 50376);
        x.setLoad(1000, 45000, 1);
        x.advance(1);
        // 50376 + 24 / 4 + -5376 * 1 / 100
        Check.due("the pull of another resonance", x.measure(2), 50329);
    }

    /** The drift leads beyond a limit, and the resonance pulls back, but not as far as to the limit. */
    private static void onlyTheSumIsLimited() {
        // w is 70000 and c is 90500: 65000 + 25500 / 4 + -20000 * 1 / 100 is 71175.
        Check.due("the highest frequency", islandAfter(65000, 40000, 500, 45000, 1), 70000);
        // with quality 7 it is 65000 + 6375 - 1400
        Check.due("below the highest frequency", islandAfter(65000, 40000, 500, 45000, 7), 69975);
        // w is 40000 and c is 29500: 45000 - 15500 / 4, and then 41125 - 11625 / 4 + 23875 * quality / 100.
        for (int[] c : new int[][] {{1, 40000}, {7, 40000}, {8, 40129}}) {
            GridInverter x = islanded(45000, -20000, -500, 45000, 100);
            Check.due("the first tick", x.measure(2), 41125);
            x.setLoad(1000, 65000, c[0]);
            x.setLoop(1, 0);
            x.advance(1);
            Check.due("the lowest frequency with quality " + c[0], x.measure(2), c[1]);
        }
    }

    private static void islandFrequencyReachesItsLimits() {
        // w is 67500 and c is 85000 + shift: f becomes 65000 + (20000 + shift) / 4.
        int[][] upwards = {{-5, 69998}, {-1, 69999}, {0, 70000}, {3, 70000}, {4, 70000}, {500, 70000}};
        for (int[] c : upwards) {
            Check.due("to 70000 with a shift of " + c[0], islandAfter(65000, 35000, c[0], 65000, 0), c[1]);
        }
        // w is 40000 and c is 30000 + shift: f becomes 50000 + (shift - 20000) / 4 - 5000.
        int[][] downwards = {{5, 40002}, {4, 40001}, {1, 40001}, {0, 40000}, {-4, 40000}, {-500, 40000}};
        for (int[] c : downwards) {
            Check.due("to 40000 with a shift of " + c[0], islandAfter(50000, -20000, c[0], 45000, 100), c[1]);
        }
    }

    private static void islandWithoutPowerKeepsItsFrequency() {
        GridInverter x = running(1000);
        x.setDrift(500, 0);
        x.setLoad(1000, 50000, 0);
        x.connect(false);
        x.advance(1);
        Check.due("an island with power", Check.measures(x, 1, 2), "[230, 50125]");
        x.setLoad(1000, 45000, 100);
        x.stop();
        Check.due("before the tick", Check.measures(x, 1, 2), "[230, 50125]");
        x.advance(7);
        Check.due("an island without power", Check.measures(x, 1, 2), "[0, 50125]");
    }

    private static void ranges() {
        Check.dueRange("setGrid voltage", 0, 400, Check::busy, (x, v) -> x.setGrid(v, 52000));
        Check.dueRange("setGrid frequency", 45000, 65000, Check::busy, (x, f) -> x.setGrid(120, f));
        Check.dueRange("jump", -500000, 500000, Check::busy, (x, by) -> x.jump(by));
        Check.dueRange("setLoad load", 1, 5000, Check::busy, (x, v) -> x.setLoad(v, 47000, 70));
        Check.dueRange("setLoad resonance", 45000, 65000, Check::busy, (x, v) -> x.setLoad(500, v, 70));
        Check.dueRange("setLoad quality", 0, 100, Check::busy, (x, v) -> x.setLoad(500, 47000, v));
    }
}
