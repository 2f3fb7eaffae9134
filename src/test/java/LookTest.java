/** Promise 6: look: each of its answers, before and behind runs, and wrong inputs. */
public final class LookTest {
    private static final int NONE = TimeoutYard.NONE, PASSED = TimeoutYard.PASSED, FAILED = TimeoutYard.FAILED;
    private static final int OVERRUN = TimeoutYard.OVERRUN, UNTRIED = TimeoutYard.UNTRIED;

    public static void main(String[] args) {
        noneBeforeTheFirstRun();
        noneIfItCameLater();
        eachVerdict();
        whatItFailedWith();
        noBeginningAndNoWorker();
        timeOfAVerdict();
        abandonedOrNot();
        howManyThreads();
        noSuchTest();
        otherWhats();
        Due.finish();
    }

    private static void noneBeforeTheFirstRun() {
        TimeoutYard yard = Due.yardWith(0, Due.WORK, 1, Due.THROW, 50);
        Due.looks("before the first run", yard, 0, NONE, -1, -1, -1, -1, 0, 0);
        yard.run();
        Due.looks("behind it", yard, 0, FAILED, 50, 0, 1, 0, 0, 1);
    }

    private static void noneIfItCameLater() {
        TimeoutYard yard = Due.yardWith(0, Due.WORK, 1, Due.THROW, 50);
        yard.run();
        yard.test(1, 0, 0, 0);
        Due.looks("came later", yard, 1, NONE, -1, -1, -1, -1, 0, 0);
        Due.looks("was there", yard, 0, FAILED, 50, 0, 1, 0, 0, 1);
        yard.workers(4);
        yard.action(1, Due.NOTE, 1);
        Due.looks("came later, behind other calls", yard, 1, NONE, -1, -1, -1, -1, 0, 0);
        Due.looks("was there, behind other calls", yard, 0, FAILED, 50, 0, 1, 0, 0, 1);
        yard.run();
        Due.looks("in the next run", yard, 1, PASSED, -1, 0, 0, 1, 0, 1);
    }

    private static void eachVerdict() {
        TimeoutYard yard = new TimeoutYard();
        Due.program(yard, 0, Due.STRAY, 4, Due.STRAY, 4);
        Due.program(yard, 1, Due.WORK, 2, Due.THROW, 99);
        Due.program(yard, 2, Due.WORK, 20);
        Due.program(yard, 3, Due.BLOCK, 0);
        yard.test(0, 0, 0, 0);
        yard.test(1, 0, 0, 0);
        yard.test(2, 4, 0, 0);
        yard.test(3, 0, 0, 0);
        yard.test(4, 0, 0, 0);
        yard.workers(2);
        Due.same("run()", () -> yard.run(), 150);
        Due.looks("passed", yard, 0, PASSED, -1, 0, 0, 0, 0, 3);
        Due.looks("failed", yard, 1, FAILED, 99, 0, 2, 1, 0, 1);
        Due.looks("overrun", yard, 2, OVERRUN, -1, 1, 5, 0, 1, 1);
        Due.looks("untried", yard, 3, UNTRIED, -1, 3, 150, 1, 0, 1);
        Due.looks("passed", yard, 4, PASSED, -1, 8, 8, 0, 0, 1);
    }

    /** -1 if it did not fail, though a thread of it died: behind an overrun, behind a pass, or left untried. */
    private static void whatItFailedWith() {
        for (int number : new int[] {0, 1, 99}) {
            TimeoutYard yard = Due.yardWith(0, Due.THROW, number);
            yard.run();
            Due.looks("failed with " + number, yard, 0, FAILED, number);
        }
        TimeoutYard interrupted = Due.yardWith(0, Due.STRAY, 1, Due.MARK, 0, Due.JOIN, 0);
        Due.program(interrupted, 1, Due.BLOCK, 0);
        interrupted.run();
        Due.looks("failed with 100", interrupted, 0, FAILED, 100);

        TimeoutYard overrun = Due.yardWith(1, Due.SLEEP, 20);
        overrun.run();
        Due.looks("overrun, and died of it", overrun, 0, OVERRUN, -1);

        TimeoutYard late = Due.yardWith(3, Due.STRAY, 1, Due.WORK, 20);
        Due.program(late, 1, Due.THROW, 6);
        late.run();
        Due.looks("overrun, and a stray had died before", late, 0, OVERRUN, -1);

        TimeoutYard untried = Due.yardWith(0, Due.STRAY, 1, Due.BLOCK, 0);
        Due.program(untried, 1, Due.THROW, 6);
        untried.run();
        Due.looks("untried, and a stray had died", untried, 0, UNTRIED, -1);

        TimeoutYard passed = Due.yardWith(0, Due.STRAY, 1);
        Due.program(passed, 1, Due.THROW, 6);
        passed.test(2, 0, 0, 0);
        passed.run();
        Due.looks("passed, and a stray died behind it", passed, 0, PASSED, -1);
    }

    private static void noBeginningAndNoWorker() {
        TimeoutYard yard = Due.yardWith(0, Due.BLOCK, 0);
        yard.test(1, 1, 0, 0);
        yard.run();
        Due.looks("has its worker to the end", yard, 0, UNTRIED, -1, 0, 150, 0, 0, 1);
        Due.looks("never begun", yard, 1, UNTRIED, -1, -1, 150, -1, 0, 0);

        TimeoutYard four = Due.yardWith(0, Due.WORK, 20);
        four.workers(4);
        for (int t = 1; t < 4; t++) {
            four.test(0, 0, 0, 0);
        }
        four.run();
        for (int t = 0; t < 4; t++) {
            Due.looks("worker " + t, four, t, PASSED, -1, 0, 20, t, 0, 1);
        }
    }

    private static void timeOfAVerdict() {
        for (int work : new int[] {1, 20}) {
            TimeoutYard yard = Due.yardWith(0, Due.WORK, work);
            yard.run();
            Due.looks("WORK " + work, yard, 0, PASSED, -1, 0, work);
        }
        TimeoutYard atOnce = Due.yardWith(0, Due.THROW, 1);
        atOnce.run();
        Due.looks("in its first turn", atOnce, 0, FAILED, 1, 0, 0);
        TimeoutYard untried = Due.yardWith(0, Due.BLOCK, 0);
        untried.run();
        Due.looks("untried: that of the end", untried, 0, UNTRIED, -1, 0, 150);
    }

    private static void abandonedOrNot() {
        for (int work = 2; work <= 6; work++) {
            TimeoutYard yard = Due.yardWith(2, Due.WORK, work);
            yard.run();
            Due.looks("timeout 2, WORK " + work, yard, 0, OVERRUN, -1, 0, 2, 0, work >= 5 ? 1 : 0);
        }
    }

    private static void howManyThreads() {
        TimeoutYard yard = new TimeoutYard();
        Due.program(yard, 0, Due.STRAY, 1, Due.STRAY, 2);
        Due.program(yard, 1, Due.STRAY, 2);
        yard.workers(2);
        yard.test(0, 0, 0, 0);
        yard.test(2, 0, 0, 0);
        yard.test(0, 0, 0, 1);
        yard.run();
        Due.looks("its own, its strays and theirs", yard, 0, PASSED, -1, 0, 0, 0, 0, 4);
        Due.looks("its own alone", yard, 1, PASSED, -1, 0, 0, 1, 0, 1);
        Due.looks("the last strays are left before they stray", yard, 2, PASSED, -1, 1, 1, 0, 0, 3);
    }

    private static void noSuchTest() {
        Due.refused("no tests", TimeoutYard::new, yard -> yard.look(0, 0), Due.ILLEGAL);
        for (int what = 0; what <= 6; what++) {
            int asked = what;
            for (int t : Due.outside(0, 3)) {
                Due.refused("four tests, look(" + t + ", " + what + ")", Due::inUse, yard -> yard.look(t, asked),
                        Due.ILLEGAL);
            }
            for (int t : Due.outside(0, 11)) {
                Due.refused("twelve tests, look(" + t + ", " + what + ")", Due::full, yard -> yard.look(t, asked),
                        Due.ILLEGAL);
            }
        }
        TimeoutYard yard = Due.full();
        Due.looks("the last of twelve", yard, 11, NONE, -1, -1, -1, -1, 0, 0);
    }

    private static void otherWhats() {
        for (int what : Due.outside(0, 6)) {
            Due.refused("look(3, " + what + ")", Due::inUse, yard -> yard.look(3, what), Due.ILLEGAL);
            Due.refused("look(4, " + what + "), and no such test", Due::inUse, yard -> yard.look(4, what), Due.ILLEGAL);
        }
    }
}
