/** Promise 1: no tests, one worker, no run. And the constants. */
public final class NewObjectTest {
    public static void main(String[] args) {
        TimeoutYard yard = new TimeoutYard();
        for (int what = 0; what <= 6; what++) {
            int asked = what;
            Due.same("count(" + what + ")", () -> yard.count(asked), 0);
        }
        Due.thrown("look(0, 0)", () -> yard.look(0, 0), Due.ILLEGAL);
        Due.thrown("note(0)", () -> yard.note(0), Due.OUTSIDE);
        Due.thrown("warning(0)", () -> yard.warning(0), Due.OUTSIDE);
        Due.same("workers(1)", () -> yard.workers(1), 1);
        Due.same("run() without tests", () -> yard.run(), 0);
        for (int what = 0; what <= 6; what++) {
            int asked = what;
            Due.same("count(" + what + ") behind an empty run", () -> yard.count(asked), 0);
        }
        programsAreEmpty();
        objectsShareNothing();
        constants();
        Due.finish();
    }

    private static void programsAreEmpty() {
        TimeoutYard yard = new TimeoutYard();
        for (int p = 0; p < 10; p++) {
            int asked = p;
            Due.same("first action of program " + p, () -> yard.action(asked, Due.END, 0), 1);
        }
    }

    private static void objectsShareNothing() {
        TimeoutYard used = new TimeoutYard();
        Due.program(used, 0, Due.NOTE, 1, Due.THROW, 2);
        used.test(0, 0, 0, 0);
        used.workers(3);
        used.run();
        TimeoutYard fresh = new TimeoutYard();
        Due.same("count(0) of another", () -> fresh.count(0), 0);
        Due.same("count(1) of another", () -> fresh.count(1), 0);
        Due.same("count(6) of another", () -> fresh.count(6), 0);
        Due.same("workers(2) of another", () -> fresh.workers(2), 1);
        Due.same("action of another", () -> fresh.action(0, Due.END, 0), 1);
    }

    private static void constants() {
        Due.same("NONE", () -> TimeoutYard.NONE, 0);
        Due.same("PASSED", () -> TimeoutYard.PASSED, 1);
        Due.same("FAILED", () -> TimeoutYard.FAILED, 2);
        Due.same("OVERRUN", () -> TimeoutYard.OVERRUN, 3);
        Due.same("UNTRIED", () -> TimeoutYard.UNTRIED, 4);
    }
}
