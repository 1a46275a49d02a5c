import java.util.function.Supplier;

/** Long mixed runs of calls, the same each time, each answer compared with that of ReferenceModel. */
public final class RunsTest {
    private static final int RUNS = 1500, CALLS = 512;

    private long seed;
    private GridInverter x;
    private ReferenceModel model;
    private final int run;

    private RunsTest(int run) {
        this.run = run;
        this.seed = 7919L * run + 12345;
    }

    public static void main(String[] args) {
        for (int run = 0; run < RUNS; run++) {
            new RunsTest(run).compare();
        }
        Check.end("RunsTest");
    }

    private void compare() {
        x = new GridInverter();
        model = new ReferenceModel();
        if (run % 4 != 0) {
            livelySettings();
        }
        // With its looks a call makes at most nine more, besides the ten at first: an object is good for 512.
        for (int i = 0; i < (CALLS - 10) / 9; i++) {
            call(pick(0, 43));
            look();
        }
    }

    /** The initial restart delay is too long for most of a run. */
    private void livelySettings() {
        int delay = pick(1, 12);
        int ramp = pick(1, 900);
        int rating = pick(1, 3000);
        both("setPower", () -> done(() -> x.setPower(delay, ramp, rating)),
                () -> done(() -> model.setPower(delay, ramp, rating)));
        int tolerance = pick(100, 20000);
        int ticks = pick(1, 9);
        both("setLock", () -> done(() -> x.setLock(tolerance, ticks)),
                () -> done(() -> model.setLock(tolerance, ticks)));
        int rules = pick(0, 8);
        for (int i = 0; i < rules; i++) {
            addRule();
        }
    }

    private void look() {
        int what = pick(0, 9);
        both("measure", () -> x.measure(what), () -> model.measure(what));
        both("state", () -> x.state(), () -> model.state());
        both("energy", () -> x.energy(), () -> model.energy());
        int rule = pick(-1, pick(0, 8));
        both("violations", () -> x.violations(rule), () -> model.violations(rule));
        int number = model.events() - pick(0, Math.min(45, model.events() + 1));
        int property = off(pick(0, 1), 0, 1);
        both("event", () -> x.event(number, property), () -> model.event(number, property));
    }

    private void call(int kind) {
        if (kind <= 9) {
            callLine(kind);
        } else if (kind <= 15) {
            callSettings(kind);
        } else if (kind <= 34) {
            callOperation(kind);
        } else {
            callWhatIf(kind - 10);
        }
    }

    private void callLine(int kind) {
        if (kind <= 2) {
            int v = off(pick(0, 3) == 0 ? pick(0, 400) : pick(195, 265), 0, 400);
            int f = off(pick(0, 3) == 0 ? pick(45000, 65000) : pick(49500, 50500), 45000, 65000);
            both("setGrid", () -> done(() -> x.setGrid(v, f)), () -> done(() -> model.setGrid(v, f)));
        } else if (kind == 3) {
            int by = off(pick(0, 1) == 0 ? pick(-500000, 500000) : pick(-9000, 9000), -500000, 500000);
            both("jump", () -> x.jump(by), () -> model.jump(by));
        } else if (kind <= 6) {
            boolean on = pick(0, 2) > 0;
            both("connect", () -> x.connect(on), () -> model.connect(on));
        } else {
            int load = off(pick(1, 5000), 1, 5000);
            int resonance = off(pick(0, 2) == 0 ? pick(45000, 65000) : pick(49500, 50500), 45000, 65000);
            int quality = off(pick(0, 100), 0, 100);
            both("setLoad", () -> done(() -> x.setLoad(load, resonance, quality)),
                    () -> done(() -> model.setLoad(load, resonance, quality)));
        }
    }

    private void callSettings(int kind) {
        if (kind == 10) {
            int kp = off(pick(1, 1000), 1, 1000);
            int ki = off(pick(0, 2) == 0 ? pick(0, 500) : pick(0, 60), 0, 500);
            both("setLoop", () -> done(() -> x.setLoop(kp, ki)), () -> done(() -> model.setLoop(kp, ki)));
        } else if (kind == 11) {
            int tolerance = off(pick(100, 100000), 100, 100000);
            int ticks = off(pick(0, 4) == 0 ? pick(1, 500) : pick(1, 12), 1, 500);
            both("setLock", () -> done(() -> x.setLock(tolerance, ticks)),
                    () -> done(() -> model.setLock(tolerance, ticks)));
        } else if (kind == 12) {
            int v1 = off(pick(0, 2) == 0 ? pick(0, 235) : pick(0, 150), 0, 400);
            int v2 = off(pick(225, 400), v1, 400);
            int f1 = off(pick(40000, 50200), 40000, 70000);
            int f2 = off(pick(49900, 70000), f1, 70000);
            both("setWindow", () -> done(() -> x.setWindow(v1, v2, f1, f2)),
                    () -> done(() -> model.setWindow(v1, v2, f1, f2)));
        } else if (kind == 13) {
            int delay = off(pick(0, 4) == 0 ? pick(1, 10000) : pick(1, 20), 1, 10000);
            int ramp = off(pick(1, 5000), 1, 5000);
            int rating = off(pick(1, 5000), 1, 5000);
            both("setPower", () -> done(() -> x.setPower(delay, ramp, rating)),
                    () -> done(() -> model.setPower(delay, ramp, rating)));
        } else {
            int shift = off(pick(-500, 500), -500, 500);
            int gain = off(pick(0, 100), 0, 100);
            both("setDrift", () -> done(() -> x.setDrift(shift, gain)), () -> done(() -> model.setDrift(shift, gain)));
        }
    }

    private void callOperation(int kind) {
        if (kind <= 17) {
            addRule();
        } else if (kind == 18 && pick(0, 3) == 0) {
            both("clearRules", () -> x.clearRules(), () -> model.clearRules());
        } else if (kind == 19 && pick(0, 3) == 0) {
            both("stop", () -> x.stop(), () -> model.stop());
            both("start", () -> x.start(), () -> model.start());
        } else if (kind == 20) {
            boolean stops = pick(0, 3) == 0;
            both("stop or start", () -> stops ? x.stop() : x.start(), () -> stops ? model.stop() : model.start());
        } else {
            int ticks = off(pick(0, 8) == 0 ? pick(1, 2000) : pick(1, 30), 1, 2000);
            both("advance", () -> x.advance(ticks), () -> model.advance(ticks));
            both("isLocked", () -> x.isLocked(), () -> model.isLocked());
            both("availability", () -> x.availability(), () -> model.availability());
            both("events", () -> x.events(), () -> model.events());
        }
    }

    /** Mostly a rule that is violated now and then. */
    private void addRule() {
        int kind = off(pick(0, 4), 0, 4);
        int[] lowest = {180, 225, 49000, 49900, 0};
        int[] highest = {233, 260, 50100, 51000, 600};
        int place = Math.max(0, Math.min(kind, 4));
        int threshold = off(pick(lowest[place], highest[place]), 0, 70000);
        int duration = off(pick(1, 25), 1, 10000);
        both("addRule", () -> x.addRule(kind, threshold, duration),
                () -> model.addRule(kind, threshold, duration));
    }

    private void callWhatIf(int kind) {
        int limit = off(pick(0, 3) == 0 ? pick(1, 2000) : pick(1, 60), 1, 2000);
        int slot = pick(0, 9) == 0 ? pick(-1, 2) : pick(0, 1);
        if (kind <= 27) {
            int load = off(pick(1, 5000), 1, 5000);
            int resonance = off(pick(49000, 51000), 45000, 65000);
            int quality = off(pick(0, 100), 0, 100);
            both("islandTime", () -> x.islandTime(load, resonance, quality, limit),
                    () -> model.islandTime(load, resonance, quality, limit));
        } else if (kind == 28) {
            int count = off(pick(1, 10), 1, 10);
            int step = off(pick(1, 500), 1, 500);
            int first = off(pick(1, 5000 - pick(0, 4500)), 1, 5000);
            int few = off(pick(1, 500), 1, 500);
            both("undetected", () -> x.undetected(first, step, count, few),
                    () -> model.undetected(first, step, count, few));
        } else if (kind <= 30) {
            int by = off(pick(-500000, 500000), -500000, 500000);
            both("relockTime", () -> x.relockTime(by, limit), () -> model.relockTime(by, limit));
        } else if (kind == 31) {
            both("save", () -> done(() -> x.save(slot)), () -> done(() -> model.save(slot)));
        } else {
            both("restore", () -> done(() -> x.restore(slot)), () -> done(() -> model.restore(slot)));
        }
    }

    private void both(String call, Supplier<Object> of, Supplier<Object> ofModel) {
        Check.due("run " + run + ": " + call, answer(of), answer(ofModel));
    }

    private static Object done(Runnable call) {
        call.run();
        return "done";
    }

    private static Object answer(Supplier<Object> call) {
        try {
            return call.get();
        } catch (RuntimeException e) {
            return "throws " + e.getClass().getSimpleName();
        }
    }

    /** Mostly the number itself; now and then an edge of its range, or a number outside. */
    private int off(int number, int lowest, int highest) {
        int dice = pick(0, 59);
        if (dice == 0) {
            return lowest - 1;
        }
        if (dice == 1) {
            return highest + 1;
        }
        if (dice == 2) {
            return lowest;
        }
        return dice == 3 ? highest : number;
    }

    private int pick(int lowest, int highest) {
        seed = seed * 6364136223846793005L + 1442695040888963407L;
        return lowest + (int) Math.floorMod(seed >>> 33, (long) highest - lowest + 1);
    }
}
