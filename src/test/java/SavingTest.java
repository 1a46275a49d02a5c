import java.util.function.Consumer;

/** Promises 27 and 28: save and restore. */
public final class SavingTest {
    public static void main(String[] args) {
        everythingComesBack();
        slotsAreTwo();
        slotIsOverwritten();
        slotsOfEachState();
        whatWasRestoredIsSavedAgain();
        slotIsKept();
        historyComesBack();
        rulesAndEventsComeBack();
        overwrittenEventsComeBack();
        windowComesBack();
        toleranceComesBack();
        allRulesAndTheLatestEventsComeBack();
        gridOfTheNextTickComesBack();
        restartDelayComesBack();
        exceptions();
        Check.end("SavingTest");
    }

    /** Each setting is changed after it was saved, and must come back. */
    private static void everythingComesBack() {
        comesBack("setGrid", x -> x.setGrid(100, 60000));
        comesBack("jump", x -> x.jump(-77777));
        comesBack("connect", x -> x.connect(false));
        comesBack("setLoad", x -> x.setLoad(333, 49000, 77));
        comesBack("setLoop", x -> x.setLoop(999, 499));
        comesBack("setLock", x -> x.setLock(111, 444));
        comesBack("setWindow", x -> x.setWindow(1, 2, 44444, 55555));
        comesBack("setPower", x -> x.setPower(7777, 4444, 3333));
        comesBack("setDrift", x -> x.setDrift(-499, 99));
        comesBack("addRule", x -> x.addRule(GridInverter.OVER_VOLTAGE, 0, 1));
        comesBack("clearRules", x -> x.clearRules());
        comesBack("stop", x -> x.stop());
        comesBack("stop and start", SavingTest::stopAndStart);
        comesBack("advance(1)", x -> x.advance(1));
        comesBack("advance(100)", x -> x.advance(100));
        comesBack("another start", SavingTest::otherRules);
        comesBack("a sag", SavingTest::sag);
    }

    private static void sag(GridInverter x) {
        x.setGrid(10, 60000);
        x.advance(3);
    }

    private static void stopAndStart(GridInverter x) {
        x.stop();
        x.start();
        x.advance(60);
    }

    private static void otherRules(GridInverter x) {
        x.clearRules();
        x.addRule(GridInverter.CHANGE, 60000, 1);
        x.addRule(GridInverter.OVER_VOLTAGE, 1, 1);
        x.advance(1500);
    }

    private static void comesBack(String call, Consumer<GridInverter> work) {
        GridInverter untouched = Check.busy();
        untouched.save(1);
        GridInverter x = Check.busy();
        x.save(1);
        work.accept(x);
        x.restore(1);
        Check.due("restore after " + call, Check.wholeOf(x), Check.wholeOf(untouched));
    }

    private static void slotsAreTwo() {
        GridInverter x = LineTest.running(1000);
        x.save(0);
        x.advance(9);
        x.save(1);
        x.advance(90);
        x.restore(0);
        Check.due("time of slot 0", x.measure(0), 1);
        Check.due("energy of slot 0", x.energy(), 1000);
        x.restore(1);
        Check.due("time of slot 1", x.measure(0), 10);
        Check.due("energy of slot 1", x.energy(), 10000);
        Check.due("availability() of slot 1", x.availability(), 1.0);
        GridInverter y = new GridInverter();
        y.save(1);
        Check.dueThrow("restore(0) when only 1 is used", IllegalStateException.class, () -> y.restore(0));
        Check.dueNoThrow("restore(1)", () -> y.restore(1));
    }

    private static void slotIsOverwritten() {
        for (int slot = 0; slot <= 1; slot++) {
            int other = 1 - slot;
            GridInverter x = new GridInverter();
            int used = slot;
            Check.dueThrow("restore of a slot never saved", IllegalStateException.class, () -> x.restore(used));
            x.save(slot);
            x.advance(5);
            x.restore(slot);
            Check.due("what was saved once", x.measure(0), 0);
            x.advance(5);
            x.save(slot);
            x.advance(5);
            x.restore(slot);
            Check.due("what was saved last", x.measure(0), 5);
            Check.dueThrow("restore of the other slot", IllegalStateException.class, () -> x.restore(other));
            x.advance(2);
            x.save(other);
            x.advance(2);
            x.restore(slot);
            Check.due("the first slot", x.measure(0), 5);
            x.restore(other);
            Check.due("the other slot", x.measure(0), 7);
        }
    }

    private static void slotsOfEachState() {
        GridInverter x = LineTest.running(1000);
        x.save(0);
        x.stop();
        x.save(1);
        x.start();
        Check.due("state()", x.state(), GridInverter.WAITING);
        x.restore(0);
        Check.due("state() of slot 0", x.state() * 10 + x.events(), GridInverter.RUNNING * 10 + 1);
        x.restore(1);
        Check.due("state() of slot 1", x.state() * 10 + x.events(), GridInverter.STOPPED * 10 + 2);
        Check.due("start()", x.start(), true);
        x.save(1);
        x.advance(1);
        Check.due("state()", x.state(), GridInverter.RUNNING);
        x.restore(1);
        Check.due("state() of slot 1", x.state() * 10 + x.events(), GridInverter.WAITING * 10 + 2);
    }

    /** What is saved after a restore belongs to the slot alone, as does what stays in the first one. */
    private static void whatWasRestoredIsSavedAgain() {
        GridInverter x = Check.busy();
        x.save(1);
        x.advance(50);
        x.restore(1);
        x.save(0);
        x.setPower(1, 1, 1);
        x.clearRules();
        x.advance(50);
        x.restore(0);
        GridInverter y = Check.busy();
        y.save(0);
        y.save(1);
        Check.due("what was saved, restored and saved again", Check.wholeOf(x), Check.wholeOf(y));
    }

    private static void slotIsKept() {
        GridInverter x = new GridInverter();
        x.advance(3);
        x.save(1);
        for (int i = 0; i < 3; i++) {
            x.restore(1);
            Check.due("time restored", x.measure(0), 3);
            x.advance(20);
            x.setGrid(0, 45000);
            x.relockTime(4, 40);
            Check.due("time going on", x.measure(0), 23);
        }
        x.restore(1);
        x.advance(1);
        Check.due("the grid restored", x.measure(1), 230);
    }

    /** The estimated frequency of 20 ticks earlier belongs to what is saved. */
    private static void historyComesBack() {
        GridInverter x = LineTest.running(1000);
        x.addRule(GridInverter.CHANGE, 99, 10000);
        x.setLoop(1, 500);
        x.jump(200);
        x.advance(1);
        x.setGrid(230, 50100);
        x.setLoop(1, 0);
        x.advance(5);
        Check.due("violations(0)", x.violations(0), 6);
        x.save(0);
        x.advance(60);
        Check.due("violations(0)", x.violations(0), 0);
        x.restore(0);
        Check.due("violations(0) restored", x.violations(0), 6);
        x.advance(14);
        Check.due("violations(0) in the 20th tick", x.violations(0), 20);
        x.advance(1);
        Check.due("violations(0) in the 21st tick", x.violations(0), 0);
    }

    private static void rulesAndEventsComeBack() {
        GridInverter x = LineTest.running(1000);
        x.addRule(GridInverter.OVER_VOLTAGE, 229, 2);
        x.advance(1);
        x.save(0);
        x.clearRules();
        x.addRule(GridInverter.UNDER_VOLTAGE, 1, 1);
        x.addRule(GridInverter.OVER_FREQUENCY, 1, 1);
        x.advance(500);
        x.restore(0);
        Check.due("events()", x.events(), 1);
        Check.due("event(0, 0)", x.event(0, 0), 1);
        Check.due("event(0, 1)", x.event(0, 1), GridInverter.STARTED);
        Check.due("event(1, 0)", x.event(1, 0), GridInverter.NONE);
        Check.due("violations(0)", x.violations(0), 1);
        Check.dueThrow("violations(1)", IndexOutOfBoundsException.class, () -> x.violations(1));
        x.advance(1);
        Check.due("the rule restored trips", x.event(1, 1), 0);
        Check.due("its time", x.event(1, 0), 3);
        Check.due("violations(0)", x.violations(0), 2);
    }

    private static void overwrittenEventsComeBack() {
        GridInverter x = LineTest.running(1000);
        x.stop();
        x.start();
        x.save(0);
        x.addRule(GridInverter.OVER_VOLTAGE, 0, 1);
        x.advance(500);
        x.restore(0);
        Check.due("events()", x.events(), 2);
        Check.due("event(1, 0)", x.event(1, 0), 1);
        Check.due("event(1, 1)", x.event(1, 1), GridInverter.BY_CALL);
    }

    /** The ready count after a tick with this voltage and an estimated frequency of 50000 + by. */
    private static int readyAfterRestore(int voltage, int by) {
        GridInverter x = new GridInverter();
        x.setLock(100000, 1);
        x.setLoop(1, 500);
        x.setWindow(210, 250, 49500, 50500);
        x.advance(5);
        x.save(0);
        x.setWindow(0, 400, 40000, 70000);
        x.advance(4);
        x.restore(0);
        Check.due("the ready count restored", x.measure(8), 5);
        x.setGrid(voltage, 50000);
        x.jump(by * 2);
        x.advance(1);
        Check.due("the estimated frequency", x.measure(5), 50000 + by);
        return x.measure(8);
    }

    private static void windowComesBack() {
        Check.due("in the window", readyAfterRestore(230, 0), 6);
        Check.due("at 209 V", readyAfterRestore(209, 0), 0);
        Check.due("at 251 V", readyAfterRestore(251, 0), 0);
        Check.due("at 49499", readyAfterRestore(230, -501), 0);
        Check.due("at 50501", readyAfterRestore(230, 501), 0);
    }

    private static void toleranceComesBack() {
        GridInverter x = new GridInverter();
        x.setLock(7000, 2);
        x.save(1);
        x.setLock(100, 2);
        x.restore(1);
        x.jump(7000);
        x.advance(1);
        Check.due("the lock count", x.measure(7), 1);
    }

    /** Eight rules, of which the last one trips in each second tick, and 51 events. */
    private static void allRulesAndTheLatestEventsComeBack() {
        GridInverter x = LineTest.running(1000);
        for (int i = 0; i < 8; i++) {
            x.addRule(GridInverter.OVER_VOLTAGE, 100 + i, i == 7 ? 1 : 9000);
        }
        x.advance(50);
        x.save(1);
        x.clearRules();
        x.addRule(GridInverter.OVER_VOLTAGE, 0, 1);
        x.advance(101);
        x.restore(1);
        Check.due("events()", x.events(), 51);
        Check.due("the one before the latest 40", x.event(10, 0), GridInverter.NONE);
        for (int i = 11; i < 51; i++) {
            Check.due("the time of event " + i, x.event(i, 0), i + 1);
            Check.due("the cause of event " + i, x.event(i, 1), i % 2 == 0 ? GridInverter.STARTED : 7);
        }
        Check.due("the one after the latest", x.event(51, 1), GridInverter.NONE);
        x.advance(1);
        Check.due("the eighth rule trips", x.event(51, 1), 7);
        Check.due("the first one counts", x.violations(0), 1);
        Check.dueThrow("a ninth rule", IllegalStateException.class, () -> x.addRule(0, 0, 1));
        Check.due("clearRules()", x.clearRules(), 8);
    }

    /** Between setGrid and the next tick the line differs from the grid. */
    private static void gridOfTheNextTickComesBack() {
        GridInverter x = new GridInverter();
        x.setGrid(240, 50500);
        x.save(0);
        x.advance(1);
        x.setGrid(250, 51000);
        x.restore(0);
        Check.due("the line restored", Check.measures(x, 1, 2), "[230, 50000]");
        x.advance(1);
        Check.due("the grid restored", Check.measures(x, 1, 2), "[240, 50500]");
    }

    private static void restartDelayComesBack() {
        GridInverter x = new GridInverter();
        x.setLock(5000, 1);
        x.setPower(8, 1, 1);
        x.advance(3);
        x.save(1);
        x.setPower(20, 1, 1);
        x.advance(10);
        x.restore(1);
        Check.due("the ready count restored", x.measure(8), 3);
        x.advance(4);
        Check.due("a tick before the restored delay", x.state(), GridInverter.WAITING);
        x.advance(1);
        Check.due("at the restored delay", x.state(), GridInverter.RUNNING);
        Check.due("its time", x.event(0, 0), 8);
    }

    private static void exceptions() {
        Check.dueRange("save", 0, 1, Check::busy, (x, slot) -> x.save(slot));
        Check.dueRange("restore", 0, 1, SavingTest::bothSaved, (x, slot) -> x.restore(slot));
        Check.dueThrowWithoutChange("restore of nothing", IllegalStateException.class, Check::busy,
                x -> x.restore(1));
        Check.dueThrowWithoutChange("restore of no slot", IllegalArgumentException.class, GridInverter::new,
                x -> x.restore(2));
    }

    private static GridInverter bothSaved() {
        GridInverter x = Check.busy();
        x.advance(3);
        x.save(1);
        x.setLoop(300, 30);
        x.advance(3);
        return x;
    }
}
