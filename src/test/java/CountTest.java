/** Promise 9: count: each of its answers, and wrong inputs. */
public final class CountTest {
    public static void main(String[] args) {
        eachCount();
        allPassed();
        mostAtOnce();
        wrongInputs();
        Due.finish();
    }

    private static void counts(String name, TimeoutYard yard, int... due) {
        for (int what = 0; what < due.length; what++) {
            int asked = what;
            Due.same(name + ": count(" + what + ")", () -> yard.count(asked), due[what]);
        }
    }

    private static void eachCount() {
        TimeoutYard yard = new TimeoutYard();
        Due.program(yard, 0, Due.NOTE, 1, Due.STRAY, 1, Due.STRAY, 2, Due.LOOK, 0);
        Due.program(yard, 1, Due.THROW, 3);
        Due.program(yard, 2, Due.BLOCK, 0);
        Due.program(yard, 3, Due.WORK, 2);
        yard.test(0, 0, 0, 0);
        yard.test(3, 0, 0, 0);
        yard.test(3, 0, 0, 0);
        yard.workers(2);
        counts("before the first run", yard, 3, 0, 0, 0, 0, 0, 0);
        yard.run();
        counts("behind it", yard, 3, 2, 1, 1, 5, 2, 0);
        yard.test(3, 0, 0, 0);
        counts("with a test more", yard, 4, 2, 1, 1, 5, 2, 0);
    }

    private static void allPassed() {
        TimeoutYard yard = new TimeoutYard();
        Due.program(yard, 1, Due.THROW, 3);
        Due.program(yard, 2, Due.WORK, 2);
        yard.run();
        Due.same("no tests", () -> yard.count(6), 0);
        yard.test(0, 0, 0, 0);
        Due.same("a test that was not there", () -> yard.count(6), 0);
        yard.run();
        Due.same("passed", () -> yard.count(6), 0);
        yard.test(1, 0, 0, 0);
        Due.same("one that will fail", () -> yard.count(6), 0);
        yard.run();
        Due.same("one failed", () -> yard.count(6), 1);

        TimeoutYard overrun = new TimeoutYard();
        Due.program(overrun, 0, Due.WORK, 2);
        overrun.test(0, 1, 0, 0);
        Due.same("before the first run", () -> overrun.count(6), 0);
        overrun.run();
        Due.same("one overrun", () -> overrun.count(6), 1);

        TimeoutYard untried = new TimeoutYard();
        Due.program(untried, 0, Due.BLOCK, 0);
        untried.test(0, 0, 0, 0);
        untried.run();
        Due.same("one untried", () -> untried.count(6), 1);
    }

    /** A test that was overrun does not run any more, though its thread does. */
    private static void mostAtOnce() {
        TimeoutYard yard = new TimeoutYard();
        Due.program(yard, 0, Due.WORK, 20);
        Due.program(yard, 1, Due.WORK, 3);
        yard.workers(2);
        yard.test(0, 1, 0, 1);
        yard.test(1, 0, 0, 1);
        Due.same("run()", () -> yard.run(), 5);
        Due.same("most at once", () -> yard.count(5), 1);
        yard.test(1, 0, 0, 0);
        yard.test(1, 0, 0, 0);
        yard.workers(4);
        yard.run();
        Due.same("most at once with four workers", () -> yard.count(5), 3);
    }

    private static void wrongInputs() {
        TimeoutYard yard = new TimeoutYard();
        for (int what : new int[] {-1, 7, Integer.MAX_VALUE, Integer.MIN_VALUE}) {
            Due.thrown("count(" + what + ")", () -> yard.count(what), Due.ILLEGAL);
        }
    }
}
