/** Promise 6: look: each of its answers, before and behind runs, and wrong inputs. */
public final class LookTest {
    public static void main(String[] args) {
        beforeAndBehindRuns();
        eachVerdict();
        wrongInputs();
        Due.finish();
    }

    private static void beforeAndBehindRuns() {
        TimeoutYard yard = new TimeoutYard();
        Due.program(yard, 0, Due.WORK, 1, Due.THROW, 50);
        yard.test(0, 0, 0, 0);
        Due.looks("before the first run", yard, 0, TimeoutYard.NONE, -1, -1, -1, -1, 0, 0);
        yard.run();
        Due.looks("behind it", yard, 0, TimeoutYard.FAILED, 50, 0, 1, 0, 0, 1);
        yard.test(1, 0, 0, 0);
        Due.looks("came later", yard, 1, TimeoutYard.NONE, -1, -1, -1, -1, 0, 0);
        Due.looks("still there", yard, 0, TimeoutYard.FAILED, 50, 0, 1, 0, 0, 1);
        yard.workers(4);
        Due.looks("workers change no run", yard, 0, TimeoutYard.FAILED, 50, 0, 1, 0, 0, 1);
        yard.run();
        Due.looks("in the next run", yard, 1, TimeoutYard.PASSED, -1, 0, 0, 1, 0, 1);
    }

    private static void eachVerdict() {
        TimeoutYard yard = new TimeoutYard();
        Due.program(yard, 0, Due.STRAY, 4, Due.STRAY, 4);
        Due.program(yard, 1, Due.WORK, 2, Due.THROW, 99);
        Due.program(yard, 2, Due.WORK, 20);
        Due.program(yard, 3, Due.BLOCK, 0);
        yard.test(0, 0, 0, 0);
        yard.test(1, 0, 0, 0);
        yard.test(2, 4, 0, 0);
        yard.test(3, 0, 0, 0);
        yard.test(4, 0, 0, 0);
        yard.workers(2);
        Due.same("run()", () -> yard.run(), 150);
        Due.looks("passed", yard, 0, TimeoutYard.PASSED, -1, 0, 0, 0, 0, 3);
        Due.looks("failed", yard, 1, TimeoutYard.FAILED, 99, 0, 2, 1, 0, 1);
        Due.looks("overrun", yard, 2, TimeoutYard.OVERRUN, -1, 1, 5, 0, 1, 1);
        Due.looks("untried", yard, 3, TimeoutYard.UNTRIED, -1, 3, 150, 1, 0, 1);
        Due.looks("passed", yard, 4, TimeoutYard.PASSED, -1, 8, 8, 0, 0, 1);
    }

    private static void wrongInputs() {
        TimeoutYard yard = new TimeoutYard();
        yard.test(0, 0, 0, 0);
        yard.test(0, 0, 0, 0);
        for (int t : new int[] {-1, 2, 11, 12, Integer.MAX_VALUE, Integer.MIN_VALUE}) {
            Due.thrown("look(" + t + ", 0)", () -> yard.look(t, 0), Due.ILLEGAL);
        }
        for (int what : new int[] {-1, 7, Integer.MAX_VALUE, Integer.MIN_VALUE}) {
            Due.thrown("look(1, " + what + ")", () -> yard.look(1, what), Due.ILLEGAL);
        }
        Due.thrown("look(2, 7)", () -> yard.look(2, 7), Due.ILLEGAL);
    }
}
