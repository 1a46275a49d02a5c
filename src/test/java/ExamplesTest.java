/** The three examples of the document, and that of README.md. */
public final class ExamplesTest {
    public static void main(String[] args) {
        lockingAndStart();
        protectionRule();
        loopAfterJump();
        exampleOfReadme();
        Check.end("ExamplesTest");
    }

    private static void lockingAndStart() {
        GridInverter x = new GridInverter();
        x.setPower(5, 300, 1000);
        x.setLock(5000, 3);
        Check.due("advance(3)", x.advance(3), 3);
        Check.due("isLocked()", x.isLocked(), true);
        Check.due("measure(8)", x.measure(8), 1);
        Check.due("advance(4)", x.advance(4), 7);
        Check.due("state()", x.state(), 1);
        Check.due("measure(9)", x.measure(9), 300);
        Check.due("advance(1)", x.advance(1), 8);
        Check.due("measure(9)", x.measure(9), 600);
        Check.due("energy()", x.energy(), 900);
        Check.due("events()", x.events(), 1);
        Check.due("event(0,0)", x.event(0, 0), 7);
        Check.due("event(0,1)", x.event(0, 1), 100);
        Check.due("availability()", x.availability(), 0.25);
    }

    private static void protectionRule() {
        GridInverter x = new GridInverter();
        x.setPower(5, 500, 1000);
        x.setLock(5000, 3);
        Check.due("addRule(0,200,3)", x.addRule(0, 200, 3), 0);
        Check.due("advance(10)", x.advance(10), 10);
        Check.due("state()", x.state(), 1);
        x.setGrid(150, 50000);
        Check.due("advance(2)", x.advance(2), 12);
        Check.due("violations(0)", x.violations(0), 2);
        Check.due("state()", x.state(), 1);
        Check.due("advance(1)", x.advance(1), 13);
        Check.due("state()", x.state(), 0);
        Check.due("event(1,1)", x.event(1, 1), 0);
        Check.dueThrow("islandTime(1000,50000,0,10)", IllegalStateException.class,
                () -> x.islandTime(1000, 50000, 0, 10));
    }

    private static void loopAfterJump() {
        GridInverter x = new GridInverter();
        Check.due("jump(100000)", x.jump(100000), 100000);
        Check.due("advance(1)", x.advance(1), 1);
        Check.due("measure(6)", x.measure(6), 100000);
        Check.due("measure(4)", x.measure(4), 70000);
        Check.due("measure(5)", x.measure(5), 52000);
        Check.due("advance(1)", x.advance(1), 2);
        Check.due("measure(6)", x.measure(6), 78000);
        Check.due("relockTime(0,50)", x.relockTime(0, 50), -1);
        x.setGrid(0, 50000);
        Check.due("advance(1)", x.advance(1), 3);
        Check.due("measure(6)", x.measure(6), 0);
        Check.due("measure(7)", x.measure(7), 0);
    }

    private static void exampleOfReadme() {
        GridInverter x = new GridInverter();
        x.setPower(5, 300, 1000);
        x.setLock(5000, 3);
        x.addRule(GridInverter.UNDER_VOLTAGE, 200, 3);
        Check.due("advance(10)", x.advance(10), 10);
        Check.due("state()", x.state(), GridInverter.RUNNING);
        Check.due("measure(9)", x.measure(9), 1000);
        Check.due("islandTime(1200,50000,10,100)", x.islandTime(1200, 50000, 10, 100), 3);
        Check.due("islandTime(500,50000,10,100)", x.islandTime(500, 50000, 10, 100), GridInverter.NONE);
        x.setGrid(150, 50000);
        Check.due("advance(3)", x.advance(3), 13);
        Check.due("state()", x.state(), GridInverter.WAITING);
        Check.due("event(1,0)", x.event(1, 0), 13);
        Check.due("event(1,1)", x.event(1, 1), 0);
    }
}
