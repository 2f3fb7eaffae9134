/** Promise 9: count: each of its answers, at its lowest and at its highest, and wrong inputs. */
public final class CountTest {
    public static void main(String[] args) {
        eachCount();
        beforeTheFirstRun();
        behindAnEmptyRun();
        threadsLeft();
        threadsInAll();
        mostAtOnce();
        mostAtOnceBehindStepTwo();
        allPassed();
        others();
        Due.finish();
    }

    private static void eachCount() {
        TimeoutYard yard = new TimeoutYard();
        Due.program(yard, 0, Due.NOTE, 1, Due.STRAY, 1, Due.STRAY, 2, Due.LOOK, 0);
        Due.program(yard, 1, Due.THROW, 3);
        Due.program(yard, 2, Due.BLOCK, 0);
        Due.program(yard, 3, Due.WORK, 2);
        yard.test(0, 0, 0, 0);
        yard.test(3, 0, 0, 0);
        yard.test(3, 0, 0, 0);
        yard.workers(2);
        yard.run();
        Due.counts("behind a run", yard, 3, 2, 1, 1, 5, 2, 0);
        yard.test(3, 0, 0, 0);
        Due.counts("with a test more", yard, 4, 2, 1, 1, 5, 2, 0);
    }

    private static void beforeTheFirstRun() {
        TimeoutYard yard = Due.yardWith(1, Due.NOTE, 1, Due.STRAY, 0, Due.THROW, 3);
        Due.counts("before the first run", yard, 1, 0, 0, 0, 0, 0, 0);
        for (int t = 1; t < 12; t++) {
            yard.test(0, 0, 0, 0);
        }
        yard.workers(4);
        Due.counts("twelve tests before the first run", yard, 12, 0, 0, 0, 0, 0, 0);
    }

    private static void behindAnEmptyRun() {
        TimeoutYard yard = new TimeoutYard();
        yard.workers(4);
        yard.run();
        Due.counts("no tests", yard, 0, 0, 0, 0, 0, 0, 0);
        yard.test(0, 0, 0, 0);
        Due.counts("a test that was not there", yard, 1, 0, 0, 0, 0, 0, 0);
    }

    private static void threadsLeft() {
        TimeoutYard none = Due.yardWith(0, Due.STRAY, 1, Due.JOIN, 0);
        none.run();
        Due.counts("all are over", none, 1, 0, 0, 0, 2);
        TimeoutYard blocked = Due.yardWith(0, Due.STRAY, 1, Due.STRAY, 1, Due.BLOCK, 0);
        Due.program(blocked, 1, Due.BLOCK, 0);
        blocked.run();
        Due.counts("none is over", blocked, 1, 0, 0, 3, 3);
        TimeoutYard abandoned = Due.yardWith(1, Due.WORK, 20);
        abandoned.run();
        Due.counts("an abandoned one", abandoned, 1, 0, 0, 1, 1);
        TimeoutYard fresh = Due.yardWith(0, Due.STRAY, 1);
        fresh.run();
        Due.counts("one that had no turn", fresh, 1, 0, 0, 1, 2);
    }

    private static void threadsInAll() {
        TimeoutYard forty = Due.yardWith(0, Due.STRAY, 0, Due.STRAY, 0, Due.STRAY, 0, Due.WORK, 20);
        forty.run();
        Due.counts("forty threads", forty, 1, 0, 0, 39, 40, 1, 0);
        for (int t = 1; t < 12; t++) {
            forty.test(1, 0, 0, 0);
        }
        forty.run();
        Due.counts("forty and eleven", forty, 12, 0, 0, 0, 51, 1, 0);
    }

    /** A test that was overrun does not run any more, though its thread does. */
    private static void mostAtOnce() {
        TimeoutYard yard = new TimeoutYard();
        Due.program(yard, 0, Due.WORK, 20);
        Due.program(yard, 1, Due.WORK, 3);
        yard.workers(2);
        yard.test(0, 1, 0, 1);
        yard.test(1, 0, 0, 1);
        Due.same("run()", () -> yard.run(), 5);
        Due.same("most at once", () -> yard.count(5), 1);
        yard.test(1, 0, 0, 0);
        yard.test(1, 0, 0, 0);
        yard.workers(4);
        yard.run();
        Due.same("most at once with four workers", () -> yard.count(5), 3);
        yard.workers(1);
        yard.run();
        Due.same("the most of the run before is forgotten", () -> yard.count(5), 1);
    }

    /** Looked at behind (2): those that are over in their first turn have run at once, too. */
    private static void mostAtOnceBehindStepTwo() {
        TimeoutYard yard = new TimeoutYard();
        for (int t = 0; t < 12; t++) {
            yard.test(0, 0, 0, 0);
        }
        for (int n = 1; n <= 4; n++) {
            yard.workers(n);
            yard.run();
            int due = n;
            Due.same("over in the first turn, workers " + n, () -> yard.count(5), due);
        }
    }

    private static void allPassed() {
        TimeoutYard yard = Due.yardWith(0, Due.END, 0);
        Due.program(yard, 1, Due.THROW, 0);
        Due.same("before the first run", () -> yard.count(6), 0);
        yard.run();
        Due.same("passed", () -> yard.count(6), 0);
        yard.test(1, 0, 0, 0);
        Due.same("one that will fail", () -> yard.count(6), 0);
        yard.run();
        Due.same("one failed", () -> yard.count(6), 1);
        yard.test(0, 0, 0, 0);
        yard.run();
        Due.same("one failed, the last one passed", () -> yard.count(6), 1);

        TimeoutYard overrun = Due.yardWith(1, Due.WORK, 2);
        overrun.run();
        Due.same("one overrun", () -> overrun.count(6), 1);

        TimeoutYard untried = Due.yardWith(0, Due.BLOCK, 0);
        untried.run();
        Due.same("one untried", () -> untried.count(6), 1);

        TimeoutYard warned = Due.yardWith(0, Due.STRAY, 1);
        Due.program(warned, 1, Due.THROW, 3);
        warned.test(2, 0, 0, 0);
        warned.run();
        Due.counts("passed with a warning", warned, 2, 0, 1, 0, 3, 1, 0);
    }

    private static void others() {
        for (int what : Due.outside(0, 6)) {
            Due.refused("count(" + what + ")", Due::inUse, yard -> yard.count(what), Due.ILLEGAL);
            Due.refused("count(" + what + ") of a new one", TimeoutYard::new, yard -> yard.count(what), Due.ILLEGAL);
        }
    }
}
