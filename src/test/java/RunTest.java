/** Promise 5: run: ticks, locks, timeouts, abandoned tests, the end of a run, and that it forgets. */
public final class RunTest {
    private static final int PASSED = TimeoutYard.PASSED, FAILED = TimeoutYard.FAILED;
    private static final int OVERRUN = TimeoutYard.OVERRUN, UNTRIED = TimeoutYard.UNTRIED;

    public static void main(String[] args) {
        timeoutAtItsTick();
        abandonedBehindThreeTicks();
        overAmongThePatience();
        overInTheLastTickOfPatience();
        locksExclude();
        locksAreFreeBehindAVerdict();
        laterTestsPassThoseThatWait();
        lockInBothSetsIsForWriting();
        endAtTheLastTime();
        overrunOnlyBeforeTheEnd();
        straysDoNotHoldTheRun();
        fortyThreads();
        firstThreadsComeBeyondForty();
        forgetsTheRunBefore();
        forgetsWhatWasLeft();
        forgetsKeep();
        forgetsATestThatDoesNotBeginAgain();
        tenActionsInOneTurn();
        Due.finish();
    }

    private static void timeoutAtItsTick() {
        TimeoutYard yard = new TimeoutYard();
        Due.program(yard, 0, Due.WORK, 4);
        yard.test(0, 4, 0, 0);
        yard.test(0, 5, 0, 0);
        yard.test(0, 0, 0, 0);
        Due.same("timeout at its tick: run()", () -> yard.run(), 15);
        Due.looks("timeout in the tick of the end", yard, 0, OVERRUN, -1, 0, 4, 0, 0, 1);
        Due.looks("timeout behind the end", yard, 1, PASSED, -1, 5, 9, 0, 0, 1);
        Due.looks("no timeout", yard, 2, PASSED, -1, 10, 14, 0, 0, 1);
        Due.warnings("timeout at its tick", yard);
    }

    private static void abandonedBehindThreeTicks() {
        TimeoutYard yard = new TimeoutYard();
        Due.program(yard, 0, Due.WORK, 20, Due.NOTE, 5, Due.THROW, 9);
        Due.program(yard, 1, Due.WORK, 15);
        yard.test(0, 2, 0, 0);
        yard.test(1, 0, 0, 0);
        Due.same("abandoned: run()", () -> yard.run(), 21);
        Due.looks("abandoned", yard, 0, OVERRUN, -1, 0, 2, 0, 1, 1);
        Due.looks("behind the abandoned", yard, 1, PASSED, -1, 5, 20, 0, 0, 1);
        Due.notes("what the abandoned still does", yard, 5);
        Due.warnings("what the abandoned dies of", yard, 9);
        Due.same("abandoned: count(3)", () -> yard.count(3), 0);

        TimeoutYard alone = new TimeoutYard();
        Due.program(alone, 0, Due.WORK, 20);
        alone.test(0, 2, 0, 0);
        Due.same("abandoned alone: run()", () -> alone.run(), 5);
        Due.looks("abandoned alone", alone, 0, OVERRUN, -1, 0, 2, 0, 1, 1);
        Due.same("abandoned alone: count(3)", () -> alone.count(3), 1);
    }

    private static void overAmongThePatience() {
        TimeoutYard yard = new TimeoutYard();
        Due.program(yard, 0, Due.GUARD, 1, Due.BLOCK, 0, Due.WORK, 1);
        Due.program(yard, 1);
        yard.test(0, 2, 0, 0);
        yard.test(1, 0, 0, 0);
        Due.same("over among the patience: run()", () -> yard.run(), 5);
        Due.looks("over among the patience", yard, 0, OVERRUN, -1, 0, 2, 0, 0, 1);
        Due.looks("its worker is free in the next tick", yard, 1, PASSED, -1, 4, 4, 0, 0, 1);
        Due.warnings("no death, no warning", yard);
    }

    private static void overInTheLastTickOfPatience() {
        int[] longerWork = {4, 5};
        for (int work : longerWork) {
            TimeoutYard yard = new TimeoutYard();
            Due.program(yard, 0, Due.WORK, work);
            yard.test(0, 2, 0, 0);
            Due.same("WORK " + work + ", timeout 2: run()", () -> yard.run(), 5);
            Due.looks("WORK " + work + ", timeout 2", yard, 0, OVERRUN, -1, 0, 2, 0, work == 5 ? 1 : 0, 1);
            Due.same("WORK " + work + ", timeout 2: count(3)", () -> yard.count(3), work == 5 ? 1 : 0);
        }
    }

    private static void locksExclude() {
        // The sets of two tests, and whether they can run at once.
        int[][] cases = {
            {0, 0, 0, 0, 1}, {1, 0, 1, 0, 1}, {15, 0, 15, 0, 1}, {0, 1, 0, 2, 1}, {4, 0, 0, 8, 1},
            {1, 0, 0, 1, 0}, {0, 1, 1, 0, 0}, {0, 1, 0, 1, 0}, {8, 0, 0, 15, 0}, {0, 8, 9, 0, 0}, {0, 6, 0, 12, 0},
            {1, 1, 1, 0, 0}, {1, 0, 1, 1, 0}, {2, 2, 1, 1, 1},
        };
        for (int[] sets : cases) {
            TimeoutYard yard = new TimeoutYard();
            Due.program(yard, 0, Due.WORK, 3);
            yard.workers(2);
            yard.test(0, 0, sets[0], sets[1]);
            yard.test(0, 0, sets[2], sets[3]);
            boolean together = sets[4] == 1;
            String name = "locks " + sets[0] + " " + sets[1] + " against " + sets[2] + " " + sets[3];
            Due.same(name + ": run()", () -> yard.run(), together ? 4 : 8);
            Due.looks(name, yard, 1, PASSED, -1, together ? 0 : 4, together ? 3 : 7, together ? 1 : 0, 0, 1);
            Due.same(name + ": count(5)", () -> yard.count(5), together ? 2 : 1);
        }
    }

    private static void locksAreFreeBehindAVerdict() {
        TimeoutYard yard = new TimeoutYard();
        Due.program(yard, 0, Due.WORK, 20);
        Due.program(yard, 1, Due.THROW, 3);
        yard.workers(2);
        yard.test(0, 3, 0, 1);
        yard.test(1, 0, 1, 0);
        yard.test(1, 0, 0, 1);
        Due.same("locks of an overrun: run()", () -> yard.run(), 6);
        Due.looks("overrun", yard, 0, OVERRUN, -1, 0, 3, 0, 1, 1);
        Due.looks("begins in the tick of the overrun", yard, 1, FAILED, 3, 3, 3, 1, 0, 1);
        Due.looks("begins behind the failed one", yard, 2, FAILED, 3, 4, 4, 1, 0, 1);
    }

    private static void laterTestsPassThoseThatWait() {
        TimeoutYard yard = new TimeoutYard();
        Due.program(yard, 0, Due.WORK, 3);
        yard.workers(3);
        yard.test(0, 0, 0, 1);
        yard.test(0, 0, 0, 3);
        yard.test(0, 0, 2, 0);
        yard.test(0, 0, 0, 0);
        yard.test(0, 0, 0, 0);
        Due.same("later tests pass: run()", () -> yard.run(), 8);
        Due.looks("has its lock", yard, 0, PASSED, -1, 0, 3, 0, 0, 1);
        Due.looks("waits for both", yard, 1, PASSED, -1, 4, 7, 0, 0, 1);
        Due.looks("passes it", yard, 2, PASSED, -1, 0, 3, 1, 0, 1);
        Due.looks("passes it, too", yard, 3, PASSED, -1, 0, 3, 2, 0, 1);
        Due.looks("has no worker at first", yard, 4, PASSED, -1, 4, 7, 1, 0, 1);
    }

    private static void lockInBothSetsIsForWriting() {
        TimeoutYard yard = new TimeoutYard();
        Due.program(yard, 0, Due.WORK, 1);
        yard.workers(4);
        yard.test(0, 0, 4, 4);
        yard.test(0, 0, 4, 4);
        yard.test(0, 0, 4, 0);
        yard.test(0, 0, 4, 0);
        Due.same("in both sets: run()", () -> yard.run(), 6);
        Due.looks("first", yard, 0, PASSED, -1, 0);
        Due.looks("second", yard, 1, PASSED, -1, 2);
        Due.looks("third", yard, 2, PASSED, -1, 4);
        Due.looks("fourth", yard, 3, PASSED, -1, 4);
    }

    private static void endAtTheLastTime() {
        TimeoutYard yard = new TimeoutYard();
        Due.program(yard, 0, Due.NOTE, 1, Due.BLOCK, 0);
        yard.test(0, 0, 0, 0);
        yard.test(0, 0, 0, 0);
        Due.same("blocked: run()", () -> yard.run(), 150);
        Due.looks("blocked", yard, 0, UNTRIED, -1, 0, 150, 0, 0, 1);
        Due.looks("never begun", yard, 1, UNTRIED, -1, -1, 150, -1, 0, 0);
        Due.notes("blocked", yard, 1);
        Due.warnings("blocked", yard);
        Due.same("blocked: count(3)", () -> yard.count(3), 1);
        Due.same("blocked: count(4)", () -> yard.count(4), 1);
        Due.same("blocked: count(6)", () -> yard.count(6), 1);

        // Seven times 20 ticks and one of rest: the last turn of the run is at time 149.
        int[] rests = {9, 10};
        for (int rest : rests) {
            TimeoutYard late = new TimeoutYard();
            for (int i = 0; i < 7; i++) {
                late.action(0, Due.WORK, 20);
            }
            Due.program(late, 0, Due.WORK, rest, Due.NOTE, 9);
            late.test(0, 0, 0, 0);
            Due.same("WORK " + (140 + rest) + ": run()", () -> late.run(), 150);
            boolean inTime = rest == 9;
            Due.looks("WORK " + (140 + rest), late, 0, inTime ? PASSED : UNTRIED, -1, 0, inTime ? 149 : 150, 0, 0, 1);
            Due.same("WORK " + (140 + rest) + ": count(1)", () -> late.count(1), inTime ? 1 : 0);
        }
    }

    private static void overrunOnlyBeforeTheEnd() {
        int[] timeouts = {49, 50};
        for (int timeout : timeouts) {
            TimeoutYard yard = new TimeoutYard();
            Due.program(yard, 0, Due.WORK, 20, Due.WORK, 20, Due.WORK, 20, Due.WORK, 20, Due.WORK, 19);
            Due.program(yard, 1, Due.WORK, 20, Due.WORK, 20, Due.WORK, 20);
            yard.test(0, 0, 0, 0);
            yard.test(1, timeout, 0, 0);
            String name = "begun at 100 with timeout " + timeout;
            Due.same(name + ": run()", () -> yard.run(), 150);
            boolean inTime = timeout == 49;
            Due.looks(name, yard, 1, inTime ? OVERRUN : UNTRIED, -1, 100, inTime ? 149 : 150, 0, 0, 1);
        }
    }

    private static void straysDoNotHoldTheRun() {
        TimeoutYard yard = new TimeoutYard();
        Due.program(yard, 0, Due.STRAY, 1, Due.STRAY, 1);
        Due.program(yard, 1, Due.WORK, 1, Due.THROW, 5);
        yard.test(0, 0, 0, 0);
        Due.same("strays: run()", () -> yard.run(), 1);
        Due.looks("strays", yard, 0, PASSED, -1, 0, 0, 0, 0, 3);
        Due.same("strays: count(3)", () -> yard.count(3), 2);
        Due.warnings("strays that are left", yard);
    }

    private static void fortyThreads() {
        TimeoutYard yard = new TimeoutYard();
        Due.program(yard, 0, Due.STRAY, 0, Due.STRAY, 0, Due.STRAY, 0, Due.WORK, 20);
        yard.test(0, 0, 0, 0);
        Due.same("forty threads: run()", () -> yard.run(), 21);
        Due.same("forty threads: count(4)", () -> yard.count(4), 40);
        Due.looks("forty threads", yard, 0, PASSED, -1, 0, 20, 0, 0, 40);
        Due.same("forty threads: count(3)", () -> yard.count(3), 39);
    }

    private static void firstThreadsComeBeyondForty() {
        TimeoutYard yard = new TimeoutYard();
        Due.program(yard, 0, Due.STRAY, 1, Due.STRAY, 1, Due.STRAY, 1, Due.STRAY, 1, Due.STRAY, 1, Due.WORK, 3);
        Due.program(yard, 1, Due.STRAY, 2, Due.STRAY, 2, Due.STRAY, 2, Due.STRAY, 2, Due.STRAY, 2, Due.STRAY, 2,
                Due.STRAY, 2);
        Due.program(yard, 3, Due.STRAY, 2, Due.NOTE, 3);
        yard.test(0, 0, 0, 0);
        for (int t = 1; t < 12; t++) {
            yard.test(3, 0, 0, 0);
        }
        Due.same("beyond forty: run()", () -> yard.run(), 15);
        Due.same("beyond forty: count(4)", () -> yard.count(4), 51);
        Due.looks("all forty", yard, 0, PASSED, -1, 0, 3, 0, 0, 40);
        Due.looks("the 51st", yard, 11, PASSED, -1, 14, 14, 0, 0, 1);
        Due.same("beyond forty: count(1)", () -> yard.count(1), 11);
    }

    private static void forgetsTheRunBefore() {
        TimeoutYard yard = new TimeoutYard();
        Due.program(yard, 0, Due.NOTE, 4, Due.STRAY, 1, Due.BLOCK, 0);
        Due.program(yard, 1, Due.WORK, 4, Due.THROW, 6);
        yard.workers(2);
        yard.test(0, 3, 0, 1);
        yard.test(1, 2, 1, 0);
        for (int again = 0; again < 3; again++) {
            Due.same("again: run()", () -> yard.run(), 8);
            Due.looks("again", yard, 0, OVERRUN, -1, 0, 3, 0, 0, 2);
            Due.looks("again", yard, 1, OVERRUN, -1, 3, 5, 1, 0, 1);
            Due.notes("again", yard, 4);
            Due.warnings("again", yard, 100, 6, 1006);
            Due.same("again: count(3)", () -> yard.count(3), 0);
            Due.same("again: count(4)", () -> yard.count(4), 3);
            Due.same("again: count(5)", () -> yard.count(5), 1);
        }
    }

    /** The thread is left at work and marked: a new one has neither. */
    private static void forgetsWhatWasLeft() {
        TimeoutYard yard = new TimeoutYard();
        Due.program(yard, 0, Due.WORK, 20);
        Due.program(yard, 1, Due.LOOK, 0, Due.WORK, 20);
        yard.workers(2);
        yard.test(0, 2, 0, 0);
        yard.test(1, 2, 0, 0);
        for (int again = 0; again < 2; again++) {
            Due.same("left: run()", () -> yard.run(), 5);
            Due.looks("left", yard, 0, OVERRUN, -1, 0, 2, 0, 1, 1);
            Due.looks("left", yard, 1, OVERRUN, -1, 0, 2, 1, 1, 1);
            Due.notes("left", yard, 100);
            Due.same("left: count(3)", () -> yard.count(3), 2);
        }
    }

    /** The second thread keeps in the first run; in the second run it is another one, which does not. */
    private static void forgetsKeep() {
        TimeoutYard yard = new TimeoutYard();
        Due.program(yard, 0, Due.WORK, 1);
        Due.program(yard, 1, Due.KEEP, 0);
        Due.program(yard, 2, Due.THROW, 5);
        yard.test(0, 0, 0, 0);
        yard.test(1, 0, 0, 0);
        Due.same("keep: run()", () -> yard.run(), 3);
        Due.looks("keep", yard, 0, PASSED, -1, 0, 1, 0, 0, 1);
        Due.program(yard, 0, Due.STRAY, 2, Due.JOIN, 0);
        Due.same("keep forgotten: run()", () -> yard.run(), 5);
        Due.looks("keep forgotten", yard, 0, FAILED, 5, 0, 3, 0, 0, 2);
    }

    /** With two workers the second test is abandoned; with one it has no turn at all. */
    private static void forgetsATestThatDoesNotBeginAgain() {
        TimeoutYard yard = Due.yardWith(0, Due.BLOCK, 0);
        Due.program(yard, 1, Due.NOTE, 5, Due.STRAY, 2, Due.WORK, 5);
        Due.program(yard, 2, Due.WORK, 4, Due.THROW, 6);
        yard.test(1, 2, 0, 0);
        yard.workers(2);
        yard.run();
        Due.looks("two workers", yard, 1, OVERRUN, -1, 0, 2, 1, 1, 2);
        Due.counts("two workers", yard, 2, 1, 1, 1, 3, 2, 1);
        yard.workers(1);
        yard.run();
        Due.looks("one worker", yard, 1, UNTRIED, -1, -1, 150, -1, 0, 0);
        Due.counts("one worker", yard, 2, 0, 0, 1, 1, 1, 1);
        Due.notes("one worker", yard);
        Due.warnings("one worker", yard);
    }

    private static void tenActionsInOneTurn() {
        TimeoutYard yard = new TimeoutYard();
        for (int i = 0; i < 10; i++) {
            yard.action(0, Due.NOTE, i);
        }
        yard.test(0, 0, 0, 0);
        Due.same("ten actions: run()", () -> yard.run(), 1);
        Due.looks("ten actions", yard, 0, PASSED, -1, 0, 0, 0, 0, 1);
        Due.notes("ten actions", yard, 0, 1, 2, 3, 4, 5, 6, 7, 8, 9);
    }
}
