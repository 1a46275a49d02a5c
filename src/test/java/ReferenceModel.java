import java.util.ArrayList;
import java.util.List;

/**
 * The document's words once more, written as literally as they go and without thrift: it keeps every estimated
 * frequency and every event. RunsTest compares GridInverter with it.
 */
final class ReferenceModel {
    private static final class Rule {
        int kind;
        long threshold;
        int duration;
        int count;
    }

    private static final class State {
        int time = 0;
        long lineVoltage = 230;
        long lineFrequency = 50000;
        long lineAngle = 0;
        boolean connected = true;
        long gridVoltage = 230;
        long gridFrequency = 50000;
        long load = 1000;
        long resonance = 50000;
        long quality = 10;
        long estimatedAngle = 0;
        long estimatedFrequency = 50000;
        long angleError = 0;
        long kp = 200;
        long ki = 20;
        int lockCount = 0;
        long tolerance = 5000;
        int lockTime = 100;
        int state = GridInverter.WAITING;
        long power = 0;
        long rating = 1000;
        int delay = 3000;
        long ramp = 10;
        int readyCount = 0;
        long lowVoltage = 207;
        long highVoltage = 253;
        long lowFrequency = 49000;
        long highFrequency = 51000;
        long shift = 0;
        long gain = 0;
        long energy = 0;
        int runningTicks = 0;
        List<Rule> rules = new ArrayList<>();
        List<int[]> events = new ArrayList<>();
        List<Long> estimates = new ArrayList<>(List.of(50000L));

        State copy() {
            State c = new State();
            c.time = time;
            c.lineVoltage = lineVoltage;
            c.lineFrequency = lineFrequency;
            c.lineAngle = lineAngle;
            c.connected = connected;
            c.gridVoltage = gridVoltage;
            c.gridFrequency = gridFrequency;
            c.load = load;
            c.resonance = resonance;
            c.quality = quality;
            c.estimatedAngle = estimatedAngle;
            c.estimatedFrequency = estimatedFrequency;
            c.angleError = angleError;
            c.kp = kp;
            c.ki = ki;
            c.lockCount = lockCount;
            c.tolerance = tolerance;
            c.lockTime = lockTime;
            c.state = state;
            c.power = power;
            c.rating = rating;
            c.delay = delay;
            c.ramp = ramp;
            c.readyCount = readyCount;
            c.lowVoltage = lowVoltage;
            c.highVoltage = highVoltage;
            c.lowFrequency = lowFrequency;
            c.highFrequency = highFrequency;
            c.shift = shift;
            c.gain = gain;
            c.energy = energy;
            c.runningTicks = runningTicks;
            for (Rule rule : rules) {
                Rule r = new Rule();
                r.kind = rule.kind;
                r.threshold = rule.threshold;
                r.duration = rule.duration;
                r.count = rule.count;
                c.rules.add(r);
            }
            c.events = new ArrayList<>(events);
            c.estimates = new ArrayList<>(estimates);
            return c;
        }

        boolean locked() {
            return lockCount >= lockTime;
        }

        long estimateAtEndOf(int tick) {
            return tick < 1 ? 50000 : estimates.get(tick);
        }

        boolean violated(Rule rule) {
            if (rule.kind == GridInverter.UNDER_VOLTAGE) {
                return lineVoltage < rule.threshold;
            }
            if (rule.kind == GridInverter.OVER_VOLTAGE) {
                return lineVoltage > rule.threshold;
            }
            if (rule.kind == GridInverter.UNDER_FREQUENCY) {
                return estimatedFrequency < rule.threshold;
            }
            if (rule.kind == GridInverter.OVER_FREQUENCY) {
                return estimatedFrequency > rule.threshold;
            }
            return Math.abs(estimatedFrequency - estimateAtEndOf(time - 20)) > rule.threshold;
        }

        void trip(int cause) {
            state = GridInverter.WAITING;
            power = 0;
            readyCount = 0;
            events.add(new int[] {time, cause});
        }

        void tick() {
            int stateAtBeginning = state;
            time += 1;
            lineStep();
            lineAngle = modulo(lineAngle + lineFrequency);
            loopStep();
            estimates.add(estimatedFrequency);
            if (state == GridInverter.RUNNING && !locked()) {
                trip(GridInverter.LOST_LOCK);
            } else if (state == GridInverter.RUNNING) {
                runStep();
            }
            if (stateAtBeginning == GridInverter.WAITING) {
                waitStep();
            }
            energy += power;
            if (state == GridInverter.RUNNING) {
                runningTicks += 1;
            }
        }

        void lineStep() {
            if (connected) {
                lineVoltage = gridVoltage;
                lineFrequency = gridFrequency;
            } else if (power == 0) {
                lineVoltage = 0;
            } else {
                long w = estimatedFrequency;
                long f = lineFrequency;
                long c = w + shift + (w - 50000) * gain / 100;
                lineVoltage = limit(230 * power / load, Long.MIN_VALUE, 400);
                lineFrequency = limit(f + (c - f) / 4 + (resonance - f) * quality / 100, 40000, 70000);
            }
        }

        void loopStep() {
            long p = estimatedAngle + estimatedFrequency;
            boolean signal = lineVoltage >= 20;
            if (signal) {
                long e = lineAngle - p;
                while (e < -500000) {
                    e += 1000000;
                }
                while (e > 499999) {
                    e -= 1000000;
                }
                angleError = e;
                estimatedAngle = modulo(p + e * kp / 1000);
                estimatedFrequency = limit(estimatedFrequency + e * ki / 1000, 40000, 70000);
            } else {
                angleError = 0;
                estimatedAngle = modulo(p);
            }
            lockCount = signal && Math.abs(angleError) <= tolerance ? lockCount + 1 : 0;
        }

        void runStep() {
            for (Rule rule : rules) {
                rule.count = violated(rule) ? rule.count + 1 : 0;
            }
            for (int i = 0; i < rules.size(); i++) {
                if (rules.get(i).count >= rules.get(i).duration) {
                    trip(i);
                    return;
                }
            }
            power = limit(power + ramp, 0, rating);
        }

        void waitStep() {
            if (locked() && lineVoltage >= lowVoltage && lineVoltage <= highVoltage
                    && estimatedFrequency >= lowFrequency && estimatedFrequency <= highFrequency) {
                readyCount += 1;
            } else {
                readyCount = 0;
            }
            if (readyCount >= delay) {
                state = GridInverter.RUNNING;
                power = limit(ramp, 0, rating);
                for (Rule rule : rules) {
                    rule.count = 0;
                }
                events.add(new int[] {time, GridInverter.STARTED});
            }
        }
    }

    private State now = new State();
    private final State[] slots = new State[2];

    private static long modulo(long angle) {
        long a = angle;
        while (a < 0) {
            a += 1000000;
        }
        while (a >= 1000000) {
            a -= 1000000;
        }
        return a;
    }

    private static long limit(long number, long lowest, long highest) {
        return number < lowest ? lowest : number > highest ? highest : number;
    }

    private static void range(long number, long lowest, long highest) {
        if (number < lowest || number > highest) {
            throw new IllegalArgumentException();
        }
    }

    void setGrid(int voltage, int frequency) {
        range(voltage, 0, 400);
        range(frequency, 45000, 65000);
        now.gridVoltage = voltage;
        now.gridFrequency = frequency;
    }

    int jump(int by) {
        range(by, -500000, 500000);
        now.lineAngle = modulo(now.lineAngle + by);
        return (int) now.lineAngle;
    }

    boolean connect(boolean connected) {
        boolean before = now.connected;
        now.connected = connected;
        return before;
    }

    void setLoad(int load, int resonance, int quality) {
        range(load, 1, 5000);
        range(resonance, 45000, 65000);
        range(quality, 0, 100);
        now.load = load;
        now.resonance = resonance;
        now.quality = quality;
    }

    void setLoop(int kp, int ki) {
        range(kp, 1, 1000);
        range(ki, 0, 500);
        now.kp = kp;
        now.ki = ki;
    }

    void setLock(int tolerance, int ticks) {
        range(tolerance, 100, 100000);
        range(ticks, 1, 500);
        now.tolerance = tolerance;
        now.lockTime = ticks;
    }

    void setWindow(int lowVoltage, int highVoltage, int lowFrequency, int highFrequency) {
        range(lowVoltage, 0, 400);
        range(highVoltage, lowVoltage, 400);
        range(lowFrequency, 40000, 70000);
        range(highFrequency, lowFrequency, 70000);
        now.lowVoltage = lowVoltage;
        now.highVoltage = highVoltage;
        now.lowFrequency = lowFrequency;
        now.highFrequency = highFrequency;
    }

    void setPower(int delay, int ramp, int rating) {
        range(delay, 1, 10000);
        range(ramp, 1, 5000);
        range(rating, 1, 5000);
        now.delay = delay;
        now.ramp = ramp;
        now.rating = rating;
    }

    void setDrift(int shift, int gain) {
        range(shift, -500, 500);
        range(gain, 0, 100);
        now.shift = shift;
        now.gain = gain;
    }

    int addRule(int kind, int threshold, int duration) {
        range(kind, 0, 4);
        range(threshold, 0, 70000);
        range(duration, 1, 10000);
        if (now.rules.size() == 8) {
            throw new IllegalStateException();
        }
        Rule rule = new Rule();
        rule.kind = kind;
        rule.threshold = threshold;
        rule.duration = duration;
        now.rules.add(rule);
        return now.rules.size() - 1;
    }

    int clearRules() {
        int removed = now.rules.size();
        now.rules.clear();
        return removed;
    }

    boolean start() {
        if (now.state != GridInverter.STOPPED) {
            return false;
        }
        now.state = GridInverter.WAITING;
        now.readyCount = 0;
        return true;
    }

    boolean stop() {
        boolean was = now.state == GridInverter.RUNNING;
        if (was) {
            now.events.add(new int[] {now.time, GridInverter.BY_CALL});
        }
        now.state = GridInverter.STOPPED;
        now.power = 0;
        return was;
    }

    int advance(int ticks) {
        range(ticks, 1, 2000);
        for (int i = 0; i < ticks; i++) {
            now.tick();
        }
        return now.time;
    }

    int state() {
        return now.state;
    }

    boolean isLocked() {
        return now.locked();
    }

    int measure(int what) {
        range(what, 0, 9);
        long[] all = {now.time, now.lineVoltage, now.lineFrequency, now.lineAngle, now.estimatedAngle,
            now.estimatedFrequency, now.angleError, now.lockCount, now.readyCount, now.power};
        return (int) all[what];
    }

    int violations(int rule) {
        if (rule < 0 || rule >= now.rules.size()) {
            throw new IndexOutOfBoundsException();
        }
        return now.rules.get(rule).count;
    }

    long energy() {
        return now.energy;
    }

    double availability() {
        return now.time == 0 ? 0.0 : (double) now.runningTicks / now.time;
    }

    int events() {
        return now.events.size();
    }

    int event(int number, int what) {
        range(what, 0, 1);
        int size = now.events.size();
        return number < 0 || number >= size || number < size - 40 ? -1 : now.events.get(number)[what];
    }

    int islandTime(int load, int resonance, int quality, int limit) {
        range(load, 1, 5000);
        range(resonance, 45000, 65000);
        range(quality, 0, 100);
        range(limit, 1, 2000);
        if (now.state != GridInverter.RUNNING) {
            throw new IllegalStateException();
        }
        State copy = now.copy();
        copy.load = load;
        copy.resonance = resonance;
        copy.quality = quality;
        copy.connected = false;
        int ticks = 0;
        while (copy.state == GridInverter.RUNNING && ticks < limit) {
            copy.tick();
            ticks++;
        }
        return copy.state == GridInverter.RUNNING ? -1 : ticks;
    }

    int undetected(int first, int step, int count, int limit) {
        range(first, 1, 5000);
        range(step, 1, 500);
        range(count, 1, 10);
        range(first + (long) (count - 1) * step, 1, 5000);
        range(limit, 1, 500);
        if (now.state != GridInverter.RUNNING) {
            throw new IllegalStateException();
        }
        int missed = 0;
        int load = first;
        for (int i = 0; i < count; i++) {
            missed += islandTime(load, (int) now.resonance, (int) now.quality, limit) == -1 ? 1 : 0;
            load += step;
        }
        return missed;
    }

    int relockTime(int by, int limit) {
        range(by, -500000, 500000);
        range(limit, 1, 2000);
        State copy = now.copy();
        copy.lineAngle = modulo(copy.lineAngle + by);
        copy.lockCount = 0;
        int ticks = 0;
        while (!copy.locked() && ticks < limit) {
            copy.tick();
            ticks++;
        }
        return copy.locked() ? ticks : -1;
    }

    void save(int slot) {
        range(slot, 0, 1);
        slots[slot] = now.copy();
    }

    void restore(int slot) {
        range(slot, 0, 1);
        if (slots[slot] == null) {
            throw new IllegalStateException();
        }
        now = slots[slot].copy();
    }
}
