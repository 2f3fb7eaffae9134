/**
 * Promise 5 at the bounds that the document's terms name: the lowest and highest of each action, nothing to do,
 * the fortieth thread, the third tick behind an overrun, the last time of a run, the 512th call.
 */
public final class RunBoundariesTest {
    private static final int PASSED = TimeoutYard.PASSED, FAILED = TimeoutYard.FAILED;
    private static final int OVERRUN = TimeoutYard.OVERRUN, UNTRIED = TimeoutYard.UNTRIED;

    public static void main(String[] args) {
        shortestAndLongestWaits();
        longestWaitsOneBehindAnother();
        emptyPrograms();
        nothingToJoinAndNothingToMark();
        joinOfAStrayThatDidNotCome();
        overThreadsAreNotMarked();
        emptyAndLongestGuard();
        guardWithFewerActionsBehindIt();
        guardGrowsWithItsProgram();
        endOfAGuardAround();
        timeoutInTheTickOfTheEnd();
        timeoutCountsFromTheBeginning();
        straysOfAnOverrunAreNotMarked();
        fortiethThread();
        fortyThreadsOfAllTests();
        workerOfAnOverrun();
        abandonedAtTheEnd();
        verdictAtTheLastTime();
        fullYard();
        theFiveHundredAndTwelfthCall();
        Due.finish();
    }

    private static void shortestAndLongestWaits() {
        for (int op : new int[] {Due.WORK, Due.SLEEP}) {
            for (int a : new int[] {1, 2, 19, 20}) {
                TimeoutYard yard = Due.yardWith(0, op, a, Due.NOTE, 5);
                Due.same("op " + op + ", " + a + " ticks: run()", () -> yard.run(), a + 1);
                Due.looks("op " + op + ", " + a + " ticks", yard, 0, PASSED, -1, 0, a, 0, 0, 1);
                Due.notes("op " + op + ", " + a + " ticks", yard, 5);
            }
        }
    }

    private static void longestWaitsOneBehindAnother() {
        TimeoutYard yard = Due.yardWith(0, Due.WORK, 20, Due.SLEEP, 20, Due.WORK, 1, Due.SLEEP, 1);
        Due.same("waits: run()", () -> yard.run(), 43);
        Due.looks("waits", yard, 0, PASSED, -1, 0, 42, 0, 0, 1);
    }

    private static void emptyPrograms() {
        TimeoutYard yard = Due.yardWith(0, Due.STRAY, 1, Due.STRAY, 1, Due.JOIN, 0, Due.NOTE, 2);
        Due.same("strays with nothing to do: run()", () -> yard.run(), 3);
        Due.looks("strays with nothing to do", yard, 0, PASSED, -1, 0, 2, 0, 0, 3);
        Due.notes("strays with nothing to do", yard, 2);
        TimeoutYard none = Due.yardWith(1);
        Due.same("a test with nothing to do: run()", () -> none.run(), 1);
        Due.looks("a test with nothing to do", none, 0, PASSED, -1, 0, 0, 0, 0, 1);
    }

    private static void nothingToJoinAndNothingToMark() {
        TimeoutYard yard = Due.yardWith(0, Due.MARK, 0, Due.JOIN, 0, Due.LOOK, 0, Due.JOIN, 0, Due.NOTE, 4);
        Due.same("no strays: run()", () -> yard.run(), 1);
        Due.notes("no strays", yard, 0, 4);
        Due.looks("no strays", yard, 0, PASSED, -1, 0, 0, 0, 0, 1);
    }

    /** Program 1 fills the run with threads: the stray of test 1 is nothing then, and nothing is waited for. */
    private static void joinOfAStrayThatDidNotCome() {
        TimeoutYard yard = Due.yardWith(0, Due.STRAY, 1, Due.WORK, 4);
        Due.program(yard, 1, Due.STRAY, 1, Due.STRAY, 1, Due.STRAY, 1, Due.BLOCK, 0);
        Due.program(yard, 2, Due.STRAY, 3, Due.JOIN, 0, Due.NOTE, 8);
        Due.program(yard, 3, Due.THROW, 3);
        yard.test(2, 0, 0, 0);
        Due.same("no stray comes: run()", () -> yard.run(), 6);
        Due.looks("no stray comes", yard, 1, PASSED, -1, 5, 5, 0, 0, 1);
        Due.notes("no stray comes", yard, 108);
        Due.counts("no stray comes", yard, 2, 1, 0, 39, 41);
    }

    private static void overThreadsAreNotMarked() {
        TimeoutYard yard = Due.yardWith(0, Due.STRAY, 1, Due.STRAY, 2, Due.WORK, 3, Due.MARK, 0, Due.JOIN, 0);
        Due.program(yard, 2, Due.WORK, 4, Due.LOOK, 0);
        Due.same("one is over, one is marked: run()", () -> yard.run(), 7);
        Due.notes("one is over, one is marked", yard, 1);
        Due.looks("one is over, one is marked", yard, 0, PASSED, -1, 0, 6, 0, 0, 3);
    }

    private static void emptyAndLongestGuard() {
        TimeoutYard empty = Due.yardWith(1, Due.GUARD, 0, Due.BLOCK, 0, Due.NOTE, 1);
        empty.run();
        Due.notes("GUARD 0 guards nothing", empty);
        Due.warnings("GUARD 0 guards nothing", empty, 100);

        TimeoutYard longest = Due.yardWith(1, Due.GUARD, 9, Due.NOTE, 1, Due.NOTE, 2, Due.NOTE, 3, Due.NOTE, 4,
                Due.NOTE, 5, Due.NOTE, 6, Due.NOTE, 7, Due.NOTE, 8, Due.BLOCK, 0);
        Due.same("GUARD 9 guards the tenth: run()", () -> longest.run(), 2);
        Due.notes("GUARD 9 guards the tenth", longest, 1, 2, 3, 4, 5, 6, 7, 8);
        Due.warnings("GUARD 9 guards the tenth", longest);

        TimeoutYard first = Due.yardWith(1, Due.GUARD, 1, Due.BLOCK, 0, Due.GUARD, 0, Due.BLOCK, 0);
        Due.same("GUARD 1 guards one: run()", () -> first.run(), 4);
        Due.looks("GUARD 1 guards one", first, 0, OVERRUN, -1, 0, 1, 0, 1, 1);
        Due.warnings("GUARD 1 guards one", first);
    }

    private static void guardWithFewerActionsBehindIt() {
        for (int length = 1; length <= 9; length++) {
            TimeoutYard yard = Due.yardWith(1, Due.NOTE, 1, Due.GUARD, length, Due.BLOCK, 0);
            Due.same("GUARD " + length + " with one behind it: run()", () -> yard.run(), 2);
            Due.looks("GUARD " + length + " with one behind it", yard, 0, OVERRUN, -1, 0, 1, 0, 0, 1);
            Due.warnings("GUARD " + length + " with one behind it", yard);
        }
        TimeoutYard last = Due.yardWith(0, Due.NOTE, 1, Due.GUARD, 9);
        Due.same("GUARD 9 with none behind it: run()", () -> last.run(), 1);
        Due.looks("GUARD 9 with none behind it", last, 0, PASSED, -1, 0, 0, 0, 0, 1);
    }

    private static void guardGrowsWithItsProgram() {
        TimeoutYard yard = Due.yardWith(1, Due.GUARD, 2);
        yard.run();
        Due.looks("nothing guarded yet", yard, 0, PASSED, -1, 0, 0, 0, 0, 1);
        Due.program(yard, 0, Due.NOTE, 1, Due.BLOCK, 0, Due.NOTE, 3);
        yard.run();
        Due.notes("two guarded", yard, 1, 3);
        Due.warnings("two guarded", yard);
    }

    /** The outer guard has three actions behind it; the inner one begins at each place in it, with each length. */
    private static void endOfAGuardAround() {
        for (int length = 0; length <= 9; length++) {
            TimeoutYard yard = Due.yardWith(1, Due.GUARD, 3, Due.GUARD, length, Due.BLOCK, 0, Due.NOTE, 3, Due.NOTE, 4,
                    Due.NOTE, 5);
            yard.run();
            String name = "outer 3, inner " + length;
            if (length == 1) {
                Due.notes(name, yard, 3, 4, 5);
            } else {
                Due.notes(name, yard, 4, 5);
            }
            Due.warnings(name, yard);

            TimeoutYard last = Due.yardWith(1, Due.GUARD, 3, Due.NOTE, 1, Due.GUARD, length, Due.BLOCK, 0, Due.NOTE, 4,
                    Due.NOTE, 5);
            last.run();
            Due.notes(name + ", block in the last place", last, 1, 4, 5);

            TimeoutYard beyond = Due.yardWith(1, Due.GUARD, 3, Due.NOTE, 1, Due.NOTE, 2, Due.GUARD, length, Due.BLOCK, 0,
                    Due.NOTE, 5);
            beyond.run();
            Due.notes(name + ", block beyond the outer", beyond, 1, 2);
            Due.warnings(name + ", block beyond the outer", beyond, 100);
        }
    }

    private static void timeoutInTheTickOfTheEnd() {
        for (int timeout : new int[] {1, 19, 20}) {
            TimeoutYard over = Due.yardWith(timeout, Due.WORK, timeout, Due.THROW, 5);
            over.run();
            Due.looks("WORK and timeout " + timeout, over, 0, OVERRUN, -1, 0, timeout, 0, 0, 1);
            Due.warnings("WORK and timeout " + timeout, over, 5);
            TimeoutYard inTime = Due.yardWith(timeout + 1, Due.WORK, timeout, Due.THROW, 5);
            inTime.run();
            Due.looks("WORK " + timeout + ", one tick more", inTime, 0, FAILED, 5, 0, timeout, 0, 0, 1);
            Due.warnings("WORK " + timeout + ", one tick more", inTime);
        }
    }

    private static void timeoutCountsFromTheBeginning() {
        TimeoutYard yard = Due.yardWith(0, Due.WORK, 20);
        Due.program(yard, 1, Due.BLOCK, 0);
        yard.test(1, 1, 0, 0);
        yard.test(1, 50, 0, 0);
        Due.same("later beginnings: run()", () -> yard.run(), 74);
        Due.looks("begun at 21, timeout 1", yard, 1, OVERRUN, -1, 21, 22, 0, 0, 1);
        Due.looks("begun at 23, timeout 50", yard, 2, OVERRUN, -1, 23, 73, 0, 0, 1);
    }

    private static void straysOfAnOverrunAreNotMarked() {
        TimeoutYard yard = Due.yardWith(2, Due.STRAY, 1, Due.STRAY, 2, Due.GUARD, 1, Due.BLOCK, 0, Due.WORK, 2);
        Due.program(yard, 1, Due.SLEEP, 2, Due.LOOK, 0);
        Due.program(yard, 2, Due.BLOCK, 0);
        Due.same("strays of an overrun: run()", () -> yard.run(), 5);
        Due.notes("strays of an overrun", yard, 0);
        Due.warnings("strays of an overrun", yard);
        Due.counts("strays of an overrun", yard, 1, 1, 0, 1, 3);
    }

    /** The first thread and 38 of program 1 are there as one, two or three strays more are asked for. */
    private static void fortiethThread() {
        for (int more = 1; more <= 3; more++) {
            TimeoutYard yard = new TimeoutYard();
            Due.program(yard, 0, Due.STRAY, 1, Due.STRAY, 1, Due.WORK, 3);
            for (int i = 0; i < more; i++) {
                yard.action(0, Due.STRAY, 3);
            }
            Due.program(yard, 0, Due.WORK, 2);
            for (int i = 0; i < 9; i++) {
                yard.action(1, Due.STRAY, 2);
            }
            yard.action(2, Due.STRAY, 3);
            Due.program(yard, 3, Due.WORK, 1, Due.NOTE, 7);
            yard.test(0, 0, 0, 0);
            String name = 39 + more + " threads asked for";
            Due.same(name + ": run()", () -> yard.run(), 6);
            Due.counts(name, yard, 1, 19, 0, 0, 40, 1, 0);
            Due.looks(name, yard, 0, PASSED, -1, 0, 5, 0, 0, 40);
        }
    }

    /** Four tests want 13 threads each: as the limit is one of the run, the last one gets fewer. */
    private static void fortyThreadsOfAllTests() {
        TimeoutYard yard = new TimeoutYard();
        for (int i = 0; i < 10; i++) {
            yard.action(0, Due.STRAY, i < 2 ? 1 : 2);
        }
        yard.action(1, Due.STRAY, 2);
        for (int t = 0; t < 4; t++) {
            yard.test(0, 0, 0, 0);
        }
        Due.same("four tests with strays: run()", () -> yard.run(), 4);
        int[] threads = {13, 13, 13, 1};
        for (int t = 0; t < 4; t++) {
            Due.looks("four tests with strays", yard, t, PASSED, -1, t, t, 0, 0, threads[t]);
        }
        Due.counts("four tests with strays", yard, 4, 0, 0, 2, 40, 1, 0);
    }

    /** Free at once if its first thread is over; else three ticks behind the overrun, and not after two. */
    private static void workerOfAnOverrun() {
        for (int work = 1; work <= 6; work++) {
            TimeoutYard yard = Due.yardWith(1, Due.WORK, work);
            yard.test(1, 0, 0, 0);
            int next = Math.min(work + 1, 4);
            Due.same("timeout 1, WORK " + work + ": run()", () -> yard.run(), next + 1);
            Due.looks("timeout 1, WORK " + work, yard, 0, OVERRUN, -1, 0, 1, 0, work >= 4 ? 1 : 0, 1);
            Due.looks("behind timeout 1, WORK " + work, yard, 1, PASSED, -1, next, next, 0, 0, 1);
        }
    }

    /** Overrun three ticks before the end and later: at time 150 nobody looks at the worker any more. */
    private static void abandonedAtTheEnd() {
        for (int rest = 5; rest <= 8; rest++) {
            TimeoutYard yard = Due.yardWith(0, Due.WORK, 20, Due.WORK, 20, Due.WORK, 20, Due.WORK, 20, Due.WORK, 20,
                    Due.WORK, 20, Due.WORK, 20);
            yard.test(1, rest, 0, 0);
            yard.test(2, 0, 0, 0);
            Due.program(yard, 1, Due.WORK, 20);
            boolean isAbandoned = rest == 5;
            String name = "overrun at " + (141 + rest);
            Due.same(name + ": run()", () -> yard.run(), 150);
            Due.looks(name, yard, 1, OVERRUN, -1, 141, 141 + rest, 0, isAbandoned ? 1 : 0, 1);
            Due.looks("behind an " + name, yard, 2, isAbandoned ? PASSED : UNTRIED, -1, isAbandoned ? 149 : -1,
                    isAbandoned ? 149 : 150, isAbandoned ? 0 : -1, 0, isAbandoned ? 1 : 0);
        }
    }

    private static void verdictAtTheLastTime() {
        for (int rest : new int[] {8, 9, 10}) {
            TimeoutYard yard = Due.yardWith(0, Due.WORK, 20, Due.WORK, 20, Due.WORK, 20, Due.WORK, 20, Due.WORK, 20,
                    Due.WORK, 20, Due.WORK, 20, Due.WORK, rest, Due.THROW, 4);
            String name = "dies at " + (140 + rest);
            Due.same(name + ": run()", () -> yard.run(), Math.min(141 + rest, 150));
            boolean inTime = rest <= 9;
            Due.looks(name, yard, 0, inTime ? FAILED : UNTRIED, inTime ? 4 : -1, 0, 140 + rest, 0, 0, 1);
            Due.counts(name, yard, 1, 0, 0, inTime ? 0 : 1, 1, 1, 1);
            Due.warnings(name, yard);
        }
    }

    /** Ten full programs, twelve tests, four workers, all locks. */
    private static void fullYard() {
        TimeoutYard yard = new TimeoutYard();
        for (int p = 0; p < 10; p++) {
            for (int i = 0; i < 10; i++) {
                yard.action(p, i == 9 ? Due.WORK : Due.NOTE, i == 9 ? 20 : 10 * p + i);
            }
        }
        for (int t = 0; t < 12; t++) {
            yard.test(t % 10, 50, 15, 0);
        }
        yard.workers(4);
        Due.same("all is full: run()", () -> yard.run(), 63);
        Due.counts("all is full", yard, 12, 108, 0, 0, 12, 4, 0);
        for (int t = 0; t < 12; t++) {
            Due.looks("all is full", yard, t, PASSED, -1, t / 4 * 21, t / 4 * 21 + 20, t % 4, 0, 1);
        }
        for (int k = 0; k < 12; k++) {
            int asked = k;
            Due.same("all is full: note(" + k + ")", () -> yard.note(asked), k < 9 ? k : 100 + 10 + k - 9);
        }
    }

    private static void theFiveHundredAndTwelfthCall() {
        TimeoutYard yard = new TimeoutYard();
        Due.program(yard, 0, Due.NOTE, 1, Due.STRAY, 1, Due.STRAY, 1, Due.BLOCK, 0);
        Due.program(yard, 1, Due.STRAY, 1, Due.STRAY, 1, Due.WORK, 20, Due.THROW, 2);
        yard.test(0, 30, 0, 1);
        // Nine calls are made, and the last one tells whether the many runs have left anything.
        for (int call = 10; call < 512; call++) {
            Due.same("call " + call + ": run()", () -> yard.run(), 31);
        }
        Due.same("call 512: count(4)", () -> yard.count(4), 40);
    }
}
