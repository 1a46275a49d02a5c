import java.util.ArrayList;
import java.util.Arrays;
import java.util.List;
import java.util.function.Consumer;
import java.util.function.Supplier;

/** What the tests of the project share: due answers, due exceptions, and looks at the whole of an object. */
final class Check {
    /** A call with one argument that is moved over the edges of its range. */
    interface CallWithNumber {
        void on(GridInverter x, int number);
    }

    private static int right = 0;
    private static int wrong = 0;

    private Check() {
    }

    static void due(String call, long got, long want) {
        count(got == want, call + " answered " + got + ", due is " + want);
    }

    static void due(String call, boolean got, boolean want) {
        count(got == want, call + " answered " + got + ", due is " + want);
    }

    static void due(String call, double got, double want) {
        count(Double.compare(got, want) == 0, call + " answered " + got + ", due is " + want);
    }

    static void due(String call, Object got, Object want) {
        count(got.equals(want), call + " answered " + got + ", due is " + want);
    }

    /** The call throws just this exception. */
    static void dueThrow(String call, Class<? extends RuntimeException> want, Runnable work) {
        String got = nameOfThrown(work);
        count(got.equals(want.getSimpleName()), call + " threw " + got + ", due is " + want.getSimpleName());
    }

    static void dueNoThrow(String call, Runnable work) {
        String got = nameOfThrown(work);
        count(got.equals("nothing"), call + " threw " + got + ", due is nothing");
    }

    static String nameOfThrown(Runnable work) {
        try {
            work.run();
            return "nothing";
        } catch (RuntimeException e) {
            return e.getClass().getSimpleName();
        }
    }

    /** The call throws IllegalArgumentException for the numbers outside the range alone, and then changes nothing. */
    static void dueRange(String call, int lowest, int highest, Supplier<GridInverter> maker, CallWithNumber work) {
        for (int good : new int[] {lowest, highest, lowest + (highest - lowest) / 2}) {
            GridInverter x = maker.get();
            dueNoThrow(call + " with " + good, () -> work.on(x, good));
        }
        for (int bad : new int[] {lowest - 1, highest + 1, Integer.MIN_VALUE, Integer.MAX_VALUE}) {
            dueThrowWithoutChange(call + " with " + bad, IllegalArgumentException.class, maker, x -> work.on(x, bad));
        }
    }

    /** The call throws just this exception, and an object after it cannot be told from one without it. */
    static void dueThrowWithoutChange(String call, Class<? extends RuntimeException> want,
            Supplier<GridInverter> maker, Consumer<GridInverter> work) {
        GridInverter touched = maker.get();
        dueThrow(call, want, () -> work.accept(touched));
        due(call + " leaves", wholeOf(touched), wholeOf(maker.get()));
    }

    /** Like a new object, but each setting has a value of its own, two rules stand, slot 0 is used, and it runs. */
    static GridInverter busy() {
        GridInverter x = new GridInverter();
        x.setPower(5, 90, 1200);
        x.setLock(6000, 3);
        x.setLoop(210, 22);
        x.setWindow(200, 260, 48500, 51500);
        x.setDrift(7, 6);
        x.setLoad(1100, 50100, 9);
        x.addRule(GridInverter.UNDER_VOLTAGE, 100, 9);
        x.addRule(GridInverter.OVER_FREQUENCY, 49000, 500);
        x.advance(9);
        x.save(0);
        x.setGrid(231, 50020);
        x.advance(9);
        return x;
    }

    /** All that the calls that change nothing tell of an object. */
    static List<Number> lookAt(GridInverter x) {
        List<Number> seen = new ArrayList<>();
        seen.add(x.state());
        seen.add(x.isLocked() ? 1 : 0);
        for (int what = 0; what <= 9; what++) {
            seen.add(x.measure(what));
        }
        for (int rule = 0; rule < 8; rule++) {
            seen.add(violationsOrNone(x, rule));
        }
        seen.add(x.energy());
        seen.add(x.availability());
        seen.add(x.events());
        for (int number = Math.max(0, x.events() - 41); number <= x.events(); number++) {
            seen.add(x.event(number, 0));
            seen.add(x.event(number, 1));
        }
        return seen;
    }

    /**
     * What an object tells, and what it does then: this shows its settings and slots, and uses it up. It makes some
     * 450 calls, as an object is good for 512.
     */
    static List<Number> wholeOf(GridInverter x) {
        List<Number> seen = new ArrayList<>(lookAt(x));
        seen.add(x.relockTime(-3000, 400));
        seen.add(x.relockTime(200000, 400));
        if (x.state() == GridInverter.RUNNING) {
            seen.add(x.islandTime(300, 49000, 3, 400));
            seen.add(x.undetected(800, 100, 5, 100));
        }
        addSteps(seen, x, 8);
        x.connect(false);
        addSteps(seen, x, 8);
        seen.add(x.stop() ? 1 : 0);
        seen.add(x.start() ? 1 : 0);
        x.connect(true);
        addSteps(seen, x, 24);
        seen.add(x.clearRules());
        for (int slot = 0; slot < 2; slot++) {
            if (isSaved(x, slot)) {
                addSteps(seen, x, 4);
            }
        }
        return seen;
    }

    private static boolean isSaved(GridInverter x, int slot) {
        try {
            x.restore(slot);
            return true;
        } catch (IllegalStateException e) {
            return false;
        }
    }

    private static void addSteps(List<Number> seen, GridInverter x, int steps) {
        for (int i = 0; i < steps; i++) {
            x.advance(1);
            for (int what : new int[] {1, 2, 5, 9}) {
                seen.add(x.measure(what));
            }
        }
        seen.addAll(lookAt(x));
    }

    private static int violationsOrNone(GridInverter x, int rule) {
        try {
            return x.violations(rule);
        } catch (IndexOutOfBoundsException e) {
            return GridInverter.NONE;
        }
    }

    /** The answers of measure for these numbers. */
    static String measures(GridInverter x, int... whats) {
        int[] seen = new int[whats.length];
        for (int i = 0; i < whats.length; i++) {
            seen[i] = x.measure(whats[i]);
        }
        return Arrays.toString(seen);
    }

    private static void count(boolean isRight, String complaint) {
        if (isRight) {
            right++;
        } else {
            wrong++;
            System.out.println(complaint);
        }
    }

    /** Ends the test program, with 1 if an answer was wrong. */
    static void end(String test) {
        System.out.println(test + ": " + right + " answers right, " + wrong + " wrong");
        System.exit(wrong == 0 && right > 0 ? 0 : 1);
    }
}
