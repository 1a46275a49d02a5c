/** Promises 18 and 20 to 23: measure, energy, availability, events and event. */
public final class MeasurementsTest {
    public static void main(String[] args) {
        measure();
        energy();
        availability();
        latestEvents();
        wrongArguments();
        Check.end("MeasurementsTest");
    }

    private static void measure() {
        GridInverter x = new GridInverter();
        x.setLock(5000, 1);
        x.setPower(5, 300, 1000);
        x.setGrid(231, 50010);
        x.advance(2);
        // Errors of 10 and 18; the first moves the estimate to 50002, 50000.
        Check.due("all ten", Check.measures(x, 0, 1, 2, 3, 4, 5, 6, 7, 8, 9),
                "[2, 231, 50010, 100020, 100005, 50000, 18, 2, 2, 0]");
        x.advance(4);
        Check.due("ready count and power", Check.measures(x, 8, 9), "[5, 600]");
    }

    private static void energy() {
        GridInverter x = LineTest.running(5000);
        Check.due("energy()", x.energy(), 5000);
        for (int i = 0; i < 250; i++) {
            x.advance(2000);
        }
        Check.due("energy() past an int", x.energy(), 5000L * 500001);
        Check.due("energy()", x.energy(), 5000L * 500001);
        x.stop();
        x.advance(3);
        Check.due("energy() of a stopped one", x.energy(), 5000L * 500001);
    }

    private static void availability() {
        GridInverter x = new GridInverter();
        Check.due("availability() at time 0", x.availability(), 0.0);
        x.setLock(5000, 3);
        x.setPower(1, 1, 1);
        x.advance(2);
        Check.due("availability() while waiting", x.availability(), 0.0);
        x.advance(1);
        Check.due("availability() of one in three", x.availability(), 1.0 / 3.0);
        x.stop();
        Check.due("availability() after a stop", x.availability(), 1.0 / 3.0);
        x.advance(4);
        Check.due("availability() of one in seven", x.availability(), 1.0 / 7.0);
        GridInverter back = new GridInverter();
        back.save(0);
        back.setLock(5000, 1);
        back.setPower(1, 1, 1);
        back.advance(5);
        Check.due("availability() of five in five", back.availability(), 1.0);
        back.restore(0);
        Check.due("availability() at time 0 again", back.availability(), 0.0);
        Check.due("availability() of all", LineTest.running(3).availability(), 1.0);
    }

    /** Starts at 1, 3, 5 ... and trips at 2, 4, 6 ...: event n happens at n + 1. */
    private static GridInverter withEvents(int number) {
        GridInverter x = LineTest.running(500);
        x.addRule(GridInverter.CHANGE, 60000, 1);
        x.addRule(GridInverter.OVER_VOLTAGE, 0, 1);
        if (number > 1) {
            x.advance(number - 1);
        }
        return x;
    }

    private static void latestEvents() {
        for (int number : new int[] {1, 39, 40, 41, 42, 79, 80, 81, 1999}) {
            GridInverter x = withEvents(number);
            Check.due("events()", x.events(), number);
            for (int i = Math.max(0, number - 43); i < number + 3; i++) {
                boolean kept = i < number && i >= number - 40;
                String call = "of " + number + " events event(" + i;
                Check.due(call + ", 0)", x.event(i, 0), kept ? i + 1 : GridInverter.NONE);
                int cause = i % 2 == 0 ? GridInverter.STARTED : 1;
                Check.due(call + ", 1)", x.event(i, 1), kept ? cause : GridInverter.NONE);
            }
        }
        Check.due("event(-1, 0) of none", new GridInverter().event(-1, 0), GridInverter.NONE);
        Check.due("event(-1, 1) of one", withEvents(1).event(-1, 1), GridInverter.NONE);
        GridInverter x = withEvents(100);
        for (int i : new int[] {-1, 0, -40, -60, Integer.MIN_VALUE, Integer.MAX_VALUE, 100, 140}) {
            Check.due("event(" + i + ", 0)", x.event(i, 0), GridInverter.NONE);
            Check.due("event(" + i + ", 1)", x.event(i, 1), GridInverter.NONE);
        }
    }

    private static void wrongArguments() {
        Check.dueRange("measure", 0, 9, Check::busy, (x, what) -> x.measure(what));
        Check.dueRange("event", 0, 1, Check::busy, (x, what) -> x.event(0, what));
        Check.dueRange("event that is not there", 0, 1, Check::busy, (x, what) -> x.event(-1, what));
    }
}
