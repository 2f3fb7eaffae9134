/** Promise 1: "No TESTS, one WORKER, no RUN." And the constants. */
public final class NewObjectTest {
    public static void main(String[] args) {
        noTests();
        oneWorker();
        noRun();
        programsHaveNoActions();
        objectsShareNothing();
        constants();
        Due.finish();
    }

    private static void noTests() {
        TimeoutYard yard = new TimeoutYard();
        Due.same("count(0)", () -> yard.count(0), 0);
        for (int what = 0; what <= 6; what++) {
            int asked = what;
            Due.thrown("look(0, " + what + ")", () -> yard.look(0, asked), Due.ILLEGAL);
        }
        Due.same("run() without tests", () -> yard.run(), 0);
        Due.counts("behind an empty run", yard, 0, 0, 0, 0, 0, 0, 0);
        Due.same("the first test", () -> yard.test(0, 0, 0, 0), 0);
    }

    private static void oneWorker() {
        Due.same("workers(4)", () -> new TimeoutYard().workers(4), 1);
        TimeoutYard yard = Due.yardWith(0, Due.WORK, 1);
        yard.test(0, 0, 0, 0);
        Due.same("two tests, one worker: run()", () -> yard.run(), 4);
        Due.same("two tests, one worker: count(5)", () -> yard.count(5), 1);
        Due.looks("second test, one worker", yard, 1, TimeoutYard.PASSED, -1, 2, 3, 0, 0, 1);
    }

    private static void noRun() {
        TimeoutYard yard = new TimeoutYard();
        Due.counts("no run", yard, 0, 0, 0, 0, 0, 0, 0);
        Due.thrown("note(0)", () -> yard.note(0), Due.OUTSIDE);
        Due.thrown("warning(0)", () -> yard.warning(0), Due.OUTSIDE);
        yard.test(0, 0, 0, 0);
        Due.looks("no run", yard, 0, TimeoutYard.NONE, -1, -1, -1, -1, 0, 0);
        Due.counts("no run, a test", yard, 1, 0, 0, 0, 0, 0, 0);
    }

    private static void programsHaveNoActions() {
        TimeoutYard yard = new TimeoutYard();
        for (int p = 0; p < 10; p++) {
            yard.test(p, 0, 0, 0);
        }
        Due.same("ten empty programs: run()", () -> yard.run(), 10);
        Due.counts("ten empty programs", yard, 10, 0, 0, 0, 10, 1, 0);
        for (int p = 0; p < 10; p++) {
            int asked = p;
            Due.looks("empty program " + p, yard, p, TimeoutYard.PASSED, -1, p, p, 0, 0, 1);
            Due.same("first action of program " + p, () -> yard.action(asked, Due.END, 0), 1);
        }
    }

    private static void objectsShareNothing() {
        Due.inUse();
        TimeoutYard fresh = new TimeoutYard();
        Due.counts("another", fresh, 0, 0, 0, 0, 0, 0, 0);
        Due.thrown("note(0) of another", () -> fresh.note(0), Due.OUTSIDE);
        Due.thrown("warning(0) of another", () -> fresh.warning(0), Due.OUTSIDE);
        Due.same("workers(2) of another", () -> fresh.workers(2), 1);
        Due.same("action of another", () -> fresh.action(9, Due.END, 0), 1);
        Due.same("test of another", () -> fresh.test(0, 0, 0, 0), 0);
    }

    private static void constants() {
        Due.same("NONE", () -> TimeoutYard.NONE, 0);
        Due.same("PASSED", () -> TimeoutYard.PASSED, 1);
        Due.same("FAILED", () -> TimeoutYard.FAILED, 2);
        Due.same("OVERRUN", () -> TimeoutYard.OVERRUN, 3);
        Due.same("UNTRIED", () -> TimeoutYard.UNTRIED, 4);
    }
}
