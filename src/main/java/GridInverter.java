/**
 * A simulation of a micro-inverter that feeds power into a line: a phase-locked loop in integers, protection
 * rules with trip times, restart delays with a power ramp, and the detection of islands by a deliberate drift
 * of the frequency.
 */
public final class GridInverter {
    public static final int WAITING = 0, RUNNING = 1, STOPPED = 2;
    public static final int UNDER_VOLTAGE = 0, OVER_VOLTAGE = 1, UNDER_FREQUENCY = 2, OVER_FREQUENCY = 3, CHANGE = 4;
    public static final int STARTED = 100, LOST_LOCK = 101, BY_CALL = 102;
    public static final int NONE = -1;

    private static final int TURN = 1000000, HALF_TURN = 500000;
    private static final int USUAL_VOLTAGE = 230, MOST_VOLTAGE = 400, LEAST_SIGNAL = 20;
    private static final int USUAL_FREQUENCY = 50000;
    private static final int LOWEST_FREQUENCY = 40000, HIGHEST_FREQUENCY = 70000;
    private static final int LOWEST_GRID_FREQUENCY = 45000, HIGHEST_GRID_FREQUENCY = 65000;
    private static final int MOST_LOAD = 5000, MOST_POWER = 5000, MOST_TICKS = 2000, MOST_DURATION = 10000;
    private static final int MOST_RULES = 8, KEPT_EVENTS = 40, CHANGE_TICKS = 20, SLOTS = 2;

    private final Simulation present = new Simulation();
    /** The what-if calls work in this copy, so that they make no objects. */
    private final Simulation trial = new Simulation();
    /** A slot is null until something is saved in it. */
    private final Simulation[] slots = new Simulation[SLOTS];

    public GridInverter() {
    }

    public void setGrid(int voltage, int frequency) throws IllegalArgumentException {
        if (outside(voltage, 0, MOST_VOLTAGE) || outside(frequency, LOWEST_GRID_FREQUENCY, HIGHEST_GRID_FREQUENCY)) {
            throw new IllegalArgumentException("voltage or frequency out of range");
        }
        present.line.gridVoltage = voltage;
        present.line.gridFrequency = frequency;
    }

    public int jump(int by) throws IllegalArgumentException {
        if (outside(by, -HALF_TURN, HALF_TURN)) {
            throw new IllegalArgumentException("by out of range");
        }
        present.line.turn(by);
        return present.line.angle;
    }

    public boolean connect(boolean connected) {
        boolean before = present.line.connected;
        present.line.connected = connected;
        return before;
    }

    public void setLoad(int load, int resonance, int quality) throws IllegalArgumentException {
        if (badIsland(load, resonance, quality)) {
            throw new IllegalArgumentException("load, resonance or quality out of range");
        }
        present.line.becomeIsland(load, resonance, quality);
    }

    public void setLoop(int kp, int ki) throws IllegalArgumentException {
        if (outside(kp, 1, 1000) || outside(ki, 0, 500)) {
            throw new IllegalArgumentException("kp or ki out of range");
        }
        present.loop.kp = kp;
        present.loop.ki = ki;
    }

    public void setLock(int tolerance, int ticks) throws IllegalArgumentException {
        if (outside(tolerance, 100, 100000) || outside(ticks, 1, 500)) {
            throw new IllegalArgumentException("tolerance or ticks out of range");
        }
        present.loop.tolerance = tolerance;
        present.loop.lockTime = ticks;
    }

    public void setWindow(int lowVoltage, int highVoltage, int lowFrequency, int highFrequency)
            throws IllegalArgumentException {
        if (outside(lowVoltage, 0, MOST_VOLTAGE) || outside(highVoltage, lowVoltage, MOST_VOLTAGE)
                || outside(lowFrequency, LOWEST_FREQUENCY, HIGHEST_FREQUENCY)
                || outside(highFrequency, lowFrequency, HIGHEST_FREQUENCY)) {
            throw new IllegalArgumentException("a limit of the window is out of range");
        }
        Inverter inverter = present.inverter;
        inverter.lowVoltage = lowVoltage;
        inverter.highVoltage = highVoltage;
        inverter.lowFrequency = lowFrequency;
        inverter.highFrequency = highFrequency;
    }

    public void setPower(int delay, int ramp, int rating) throws IllegalArgumentException {
        if (outside(delay, 1, MOST_DURATION) || outside(ramp, 1, MOST_POWER) || outside(rating, 1, MOST_POWER)) {
            throw new IllegalArgumentException("delay, ramp or rating out of range");
        }
        present.inverter.delay = delay;
        present.inverter.ramp = ramp;
        present.inverter.rating = rating;
    }

    public void setDrift(int shift, int gain) throws IllegalArgumentException {
        if (outside(shift, -500, 500) || outside(gain, 0, 100)) {
            throw new IllegalArgumentException("shift or gain out of range");
        }
        present.inverter.shift = shift;
        present.inverter.gain = gain;
    }

    public int addRule(int kind, int threshold, int duration) throws IllegalArgumentException, IllegalStateException {
        if (outside(kind, UNDER_VOLTAGE, CHANGE) || outside(threshold, 0, HIGHEST_FREQUENCY)
                || outside(duration, 1, MOST_DURATION)) {
            throw new IllegalArgumentException("kind, threshold or duration out of range");
        }
        int number = present.rules.append(kind, threshold, duration);
        if (number == NONE) {
            throw new IllegalStateException("there are 8 rules");
        }
        return number;
    }

    public int clearRules() {
        int removed = present.rules.size;
        present.rules.size = 0;
        return removed;
    }

    public boolean start() {
        return present.inverter.leaveStop();
    }

    public boolean stop() {
        return present.stopByCall();
    }

    public int advance(int ticks) throws IllegalArgumentException {
        if (outside(ticks, 1, MOST_TICKS)) {
            throw new IllegalArgumentException("ticks out of range");
        }
        for (int i = 0; i < ticks; i++) {
            present.tick();
        }
        return present.time;
    }

    public int state() {
        return present.inverter.mode;
    }

    public boolean isLocked() {
        return present.loop.holdsLock();
    }

    public int measure(int what) throws IllegalArgumentException {
        switch (what) {
            case 0: return present.time;
            case 1: return present.line.voltage;
            case 2: return present.line.frequency;
            case 3: return present.line.angle;
            case 4: return present.loop.angle;
            case 5: return present.loop.frequency;
            case 6: return present.loop.error;
            case 7: return present.loop.lockCount;
            case 8: return present.inverter.readyCount;
            case 9: return present.inverter.power;
            default: throw new IllegalArgumentException("what is not 0 to 9");
        }
    }

    public int violations(int rule) throws IndexOutOfBoundsException {
        int count = present.rules.countOf(rule);
        if (count == NONE) {
            throw new IndexOutOfBoundsException("there is no such rule");
        }
        return count;
    }

    public long energy() {
        return present.inverter.energy;
    }

    public double availability() {
        int time = present.time;
        return time > 0 ? (double) present.inverter.runningTicks / (double) time : 0.0;
    }

    public int events() {
        return present.log.size;
    }

    public int event(int number, int what) throws IllegalArgumentException {
        if (outside(what, 0, 1)) {
            throw new IllegalArgumentException("what is neither 0 nor 1");
        }
        return what == 0 ? present.log.timeOf(number) : present.log.causeOf(number);
    }

    public int islandTime(int load, int resonance, int quality, int limit)
            throws IllegalArgumentException, IllegalStateException {
        if (badIsland(load, resonance, quality) || outside(limit, 1, MOST_TICKS)) {
            throw new IllegalArgumentException("an argument is out of range");
        }
        if (present.inverter.mode != RUNNING) {
            throw new IllegalStateException("the inverter is not RUNNING");
        }
        return ticksToDetect(load, resonance, quality, limit);
    }

    public int undetected(int first, int step, int count, int limit)
            throws IllegalArgumentException, IllegalStateException {
        // The last load is looked at last: only the tests before it keep its sum from wrapping around.
        if (outside(first, 1, MOST_LOAD) || outside(step, 1, 500) || outside(count, 1, 10) || outside(limit, 1, 500)
                || first + (count - 1) * step > MOST_LOAD) {
            throw new IllegalArgumentException("an argument is out of range");
        }
        if (present.inverter.mode != RUNNING) {
            throw new IllegalStateException("the inverter is not RUNNING");
        }
        int missed = 0;
        for (int i = 0; i < count; i++) {
            int load = first + i * step;
            if (ticksToDetect(load, present.line.resonance, present.line.quality, limit) == NONE) {
                missed++;
            }
        }
        return missed;
    }

    public int relockTime(int by, int limit) throws IllegalArgumentException {
        if (outside(by, -HALF_TURN, HALF_TURN) || outside(limit, 1, MOST_TICKS)) {
            throw new IllegalArgumentException("an argument is out of range");
        }
        trial.takeFrom(present);
        trial.line.turn(by);
        trial.loop.lockCount = 0;
        for (int ticks = 1; ticks <= limit; ticks++) {
            trial.tick();
            if (trial.loop.holdsLock()) {
                return ticks;
            }
        }
        return NONE;
    }

    public void save(int slot) throws IllegalArgumentException {
        if (outside(slot, 0, SLOTS - 1)) {
            throw new IllegalArgumentException("the slot does not exist");
        }
        Simulation kept = slots[slot];
        if (kept == null) {
            kept = new Simulation();
            slots[slot] = kept;
        }
        kept.takeFrom(present);
    }

    public void restore(int slot) throws IllegalArgumentException, IllegalStateException {
        if (outside(slot, 0, SLOTS - 1)) {
            throw new IllegalArgumentException("the slot does not exist");
        }
        Simulation kept = slots[slot];
        if (kept == null) {
            throw new IllegalStateException("nothing was saved in the slot");
        }
        present.takeFrom(kept);
    }

    private int ticksToDetect(int load, int resonance, int quality, int limit) {
        trial.takeFrom(present);
        trial.line.becomeIsland(load, resonance, quality);
        trial.line.connected = false;
        for (int ticks = 1; ticks <= limit; ticks++) {
            trial.tick();
            if (trial.inverter.mode != RUNNING) {
                return ticks;
            }
        }
        return NONE;
    }

    private static boolean badIsland(int load, int resonance, int quality) {
        return outside(load, 1, MOST_LOAD) || outside(resonance, LOWEST_GRID_FREQUENCY, HIGHEST_GRID_FREQUENCY)
                || outside(quality, 0, 100);
    }

    private static boolean outside(int number, int lowest, int highest) {
        return number < lowest || number > highest;
    }

    private static int limitedFrequency(int frequency) {
        return Math.max(LOWEST_FREQUENCY, Math.min(frequency, HIGHEST_FREQUENCY));
    }

    private static void copyRow(int[] from, int[] to) {
        System.arraycopy(from, 0, to, 0, Math.min(from.length, to.length));
    }

    /** All that a copy of the simulation must hold. */
    private static final class Simulation {
        int time = 0;
        final Line line = new Line();
        final Loop loop = new Loop();
        final Inverter inverter = new Inverter();
        final Rules rules = new Rules();
        final Log log = new Log();

        void tick() {
            time++;
            line.settle(inverter.power, inverter.drifted(loop.frequency));
            line.turn(line.frequency);
            loop.follow(line.angle, line.voltage);
            int change = loop.changeUntil(time);
            int modeBefore = inverter.mode;
            if (modeBefore == RUNNING) {
                protect(change);
            } else if (modeBefore == WAITING) {
                prepare();
            }
            inverter.account();
        }

        /** What a tick does to an inverter that was RUNNING. */
        private void protect(int change) {
            if (!loop.holdsLock()) {
                trip(LOST_LOCK);
                return;
            }
            int due = rules.countViolations(line.voltage, loop.frequency, change);
            if (due == NONE) {
                inverter.raisePower();
            } else {
                trip(due);
            }
        }

        /** What a tick does to an inverter that was WAITING. */
        private void prepare() {
            boolean ready = loop.holdsLock() && inverter.admits(line.voltage, loop.frequency);
            inverter.readyCount = ready ? inverter.readyCount + 1 : 0;
            if (inverter.readyCount >= inverter.delay) {
                inverter.mode = RUNNING;
                inverter.raisePower();
                rules.forgetViolations();
                log.append(time, STARTED);
            }
        }

        private void trip(int cause) {
            inverter.mode = WAITING;
            inverter.power = 0;
            inverter.readyCount = 0;
            log.append(time, cause);
        }

        boolean stopByCall() {
            boolean wasRunning = inverter.mode == RUNNING;
            if (wasRunning) {
                log.append(time, BY_CALL);
            }
            inverter.mode = STOPPED;
            inverter.power = 0;
            return wasRunning;
        }

        void takeFrom(Simulation other) {
            time = other.time;
            line.takeFrom(other.line);
            loop.takeFrom(other.loop);
            inverter.takeFrom(other.inverter);
            rules.takeFrom(other.rules);
            log.takeFrom(other.log);
        }
    }

    /** The line, the grid that it may hang on, and the island that it is otherwise. */
    private static final class Line {
        int voltage = USUAL_VOLTAGE;
        int frequency = USUAL_FREQUENCY;
        int angle = 0;
        boolean connected = true;
        int gridVoltage = USUAL_VOLTAGE;
        int gridFrequency = USUAL_FREQUENCY;
        int load = 1000;
        int resonance = USUAL_FREQUENCY;
        int quality = 10;

        void becomeIsland(int newLoad, int newResonance, int newQuality) {
            load = newLoad;
            resonance = newResonance;
            quality = newQuality;
        }

        void turn(int by) {
            angle = Math.floorMod(angle + by, TURN);
        }

        void settle(int power, int drifted) {
            if (connected) {
                voltage = gridVoltage;
                frequency = gridFrequency;
            } else if (power > 0) {
                voltage = islandVoltage(power);
                frequency = islandFrequency(drifted);
            } else {
                voltage = 0;
            }
        }

        private int islandVoltage(int power) {
            // A load is never below 1; the test lets the division be seen to be safe right here.
            return load > 0 ? Math.min(USUAL_VOLTAGE * power / load, MOST_VOLTAGE) : MOST_VOLTAGE;
        }

        private int islandFrequency(int drifted) {
            int pushed = (drifted - frequency) / 4;
            int pulled = (resonance - frequency) * quality / 100;
            return limitedFrequency(frequency + pushed + pulled);
        }

        void takeFrom(Line other) {
            voltage = other.voltage;
            frequency = other.frequency;
            angle = other.angle;
            connected = other.connected;
            gridVoltage = other.gridVoltage;
            gridFrequency = other.gridFrequency;
            becomeIsland(other.load, other.resonance, other.quality);
        }
    }

    /** The phase-locked loop with its lock count. */
    private static final class Loop {
        int angle = 0;
        int frequency = USUAL_FREQUENCY;
        int error = 0;
        int kp = 200;
        int ki = 20;
        int tolerance = 5000;
        int lockTime = 100;
        int lockCount = 0;
        /** The estimated frequencies at the ends of the latest ticks, each where its time modulo the length points. */
        private final int[] past = new int[CHANGE_TICKS];

        Loop() {
            for (int i = 0; i < CHANGE_TICKS; i++) {
                past[i] = USUAL_FREQUENCY;
            }
        }

        void follow(int lineAngle, int lineVoltage) {
            int expected = angle + frequency;
            if (lineVoltage >= LEAST_SIGNAL) {
                error = Math.floorMod(lineAngle - expected + HALF_TURN, TURN) - HALF_TURN;
                angle = Math.floorMod(expected + error * kp / 1000, TURN);
                frequency = limitedFrequency(frequency + error * ki / 1000);
                lockCount = outside(error, -tolerance, tolerance) ? 0 : lockCount + 1;
            } else {
                error = 0;
                angle = Math.floorMod(expected, TURN);
                lockCount = 0;
            }
        }

        /** Notes the estimated frequency of a tick, and tells how far it is from that 20 ticks earlier. */
        int changeUntil(int time) {
            int place = Math.floorMod(time, CHANGE_TICKS);
            int change = frequency - past[place];
            past[place] = frequency;
            return change < 0 ? -change : change;
        }

        boolean holdsLock() {
            return lockCount >= lockTime;
        }

        void takeFrom(Loop other) {
            angle = other.angle;
            frequency = other.frequency;
            error = other.error;
            kp = other.kp;
            ki = other.ki;
            tolerance = other.tolerance;
            lockTime = other.lockTime;
            lockCount = other.lockCount;
            copyRow(other.past, past);
        }
    }

    /** The inverter without its rules, and what it has fed into the line. */
    private static final class Inverter {
        int mode = WAITING;
        int power = 0;
        int rating = 1000;
        int delay = 3000;
        int ramp = 10;
        int readyCount = 0;
        int lowVoltage = 207;
        int highVoltage = 253;
        int lowFrequency = 49000;
        int highFrequency = 51000;
        int shift = 0;
        int gain = 0;
        long energy = 0;
        int runningTicks = 0;

        boolean leaveStop() {
            if (mode != STOPPED) {
                return false;
            }
            mode = WAITING;
            readyCount = 0;
            return true;
        }

        int drifted(int estimate) {
            return estimate + shift + (estimate - USUAL_FREQUENCY) * gain / 100;
        }

        boolean admits(int voltage, int frequency) {
            return !outside(voltage, lowVoltage, highVoltage) && !outside(frequency, lowFrequency, highFrequency);
        }

        void raisePower() {
            power = Math.min(power + ramp, rating);
        }

        void account() {
            energy += power;
            if (mode == RUNNING) {
                runningTicks++;
            }
        }

        void takeFrom(Inverter other) {
            mode = other.mode;
            power = other.power;
            rating = other.rating;
            delay = other.delay;
            ramp = other.ramp;
            readyCount = other.readyCount;
            lowVoltage = other.lowVoltage;
            highVoltage = other.highVoltage;
            lowFrequency = other.lowFrequency;
            highFrequency = other.highFrequency;
            shift = other.shift;
            gain = other.gain;
            energy = other.energy;
            runningTicks = other.runningTicks;
        }
    }

    /** The protection rules, a row a property. */
    private static final class Rules {
        int size = 0;
        private final int[] kinds = new int[MOST_RULES];
        private final int[] thresholds = new int[MOST_RULES];
        private final int[] durations = new int[MOST_RULES];
        private final int[] counts = new int[MOST_RULES];

        /** Answers the number of the new rule, or NONE if there is no room for it. */
        int append(int kind, int threshold, int duration) {
            int number = size;
            if (outside(number, 0, MOST_RULES - 1)) {
                return NONE;
            }
            kinds[number] = kind;
            thresholds[number] = threshold;
            durations[number] = duration;
            counts[number] = 0;
            size = number + 1;
            return number;
        }

        /** Answers the violation count of a rule, or NONE if there is no such rule. */
        int countOf(int rule) {
            return rule >= 0 && rule < size && rule < MOST_RULES ? counts[rule] : NONE;
        }

        /** Counts one tick for each rule, and answers the lowest number of those that are due, or NONE. */
        int countViolations(int voltage, int frequency, int change) {
            int due = NONE;
            for (int rule = 0; rule < size && rule < MOST_RULES; rule++) {
                boolean violated = isViolated(kinds[rule], thresholds[rule], voltage, frequency, change);
                counts[rule] = violated ? counts[rule] + 1 : 0;
                if (due == NONE && counts[rule] >= durations[rule]) {
                    due = rule;
                }
            }
            return due;
        }

        private static boolean isViolated(int kind, int threshold, int voltage, int frequency, int change) {
            switch (kind) {
                case UNDER_VOLTAGE: return voltage < threshold;
                case OVER_VOLTAGE: return voltage > threshold;
                case UNDER_FREQUENCY: return frequency < threshold;
                case OVER_FREQUENCY: return frequency > threshold;
                default: return change > threshold;
            }
        }

        void forgetViolations() {
            for (int rule = 0; rule < MOST_RULES; rule++) {
                counts[rule] = 0;
            }
        }

        void takeFrom(Rules other) {
            size = other.size;
            copyRow(other.kinds, kinds);
            copyRow(other.thresholds, thresholds);
            copyRow(other.durations, durations);
            copyRow(other.counts, counts);
        }
    }

    /** The events; each stands where its number modulo the length points, so that the latest ones remain. */
    private static final class Log {
        int size = 0;
        private final int[] times = new int[KEPT_EVENTS];
        private final int[] causes = new int[KEPT_EVENTS];

        void append(int time, int cause) {
            int place = Math.floorMod(size, KEPT_EVENTS);
            times[place] = time;
            causes[place] = cause;
            size++;
        }

        int timeOf(int number) {
            return isKept(number) ? times[Math.floorMod(number, KEPT_EVENTS)] : NONE;
        }

        int causeOf(int number) {
            return isKept(number) ? causes[Math.floorMod(number, KEPT_EVENTS)] : NONE;
        }

        private boolean isKept(int number) {
            return number >= 0 && number < size && number >= size - KEPT_EVENTS;
        }

        void takeFrom(Log other) {
            size = other.size;
            copyRow(other.times, times);
            copyRow(other.causes, causes);
        }
    }
}
