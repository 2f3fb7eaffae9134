/** The actions 0 to 11 as threads do them (promise 5, with what look, note and warning tell of it). */
public final class ActionsInRunTest {
    private static final int PASSED = TimeoutYard.PASSED, FAILED = TimeoutYard.FAILED, OVERRUN = TimeoutYard.OVERRUN;

    public static void main(String[] args) {
        workDoesNotCare();
        sleepIsInterrupted();
        sleepInterruptedInItsLastTurn();
        markedAsAWaitBegins();
        blockGoesOnByInterruptAlone();
        throwIsNotCaught();
        guards();
        guardsInOneAnother();
        strayBeginsInTheNextTick();
        joinWaitsForItsOwn();
        joinIsInterrupted();
        lookTakesTheMark();
        keepIsSilent();
        endIsTheEnd();
        markMarksItsOwn();
        verdictByTheFirstThatDied();
        verdictComesInTheTurn();
        eachActionDoesItsOwnAlone();
        Due.finish();
    }

    private static void workDoesNotCare() {
        TimeoutYard yard = Due.yardWith(1, Due.GUARD, 9, Due.WORK, 3, Due.LOOK, 0, Due.WORK, 1, Due.NOTE, 7);
        yard.test(1, 0, 0, 0);
        Due.program(yard, 1, Due.WORK, 2);
        Due.same("work: run()", () -> yard.run(), 7);
        Due.looks("work", yard, 0, OVERRUN, -1, 0, 1, 0, 1, 1);
        Due.notes("work", yard, 1, 7);
    }

    private static void sleepIsInterrupted() {
        TimeoutYard yard = Due.yardWith(2, Due.SLEEP, 20, Due.NOTE, 1);
        Due.same("sleep interrupted: run()", () -> yard.run(), 3);
        Due.looks("sleep interrupted", yard, 0, OVERRUN, -1, 0, 2, 0, 0, 1);
        Due.notes("sleep interrupted", yard);
        Due.warnings("sleep interrupted", yard, 100);

        TimeoutYard calm = Due.yardWith(6, Due.SLEEP, 5, Due.NOTE, 1);
        Due.same("sleep: run()", () -> calm.run(), 6);
        Due.looks("sleep", calm, 0, PASSED, -1, 0, 5, 0, 0, 1);
        Due.notes("sleep", calm, 1);
    }

    private static void sleepInterruptedInItsLastTurn() {
        TimeoutYard yard = Due.yardWith(5, Due.SLEEP, 5, Due.NOTE, 1);
        Due.same("sleep and timeout at once: run()", () -> yard.run(), 6);
        Due.looks("sleep and timeout at once", yard, 0, OVERRUN, -1, 0, 5, 0, 0, 1);
        Due.notes("sleep and timeout at once", yard);
        Due.warnings("sleep and timeout at once", yard, 100);
    }

    private static void markedAsAWaitBegins() {
        for (int wait : new int[] {Due.SLEEP, Due.BLOCK, Due.JOIN}) {
            TimeoutYard yard = Due.yardWith(1, Due.WORK, 2, Due.NOTE, 1, Due.GUARD, 1, wait, 9, Due.LOOK, 0, Due.SLEEP, 1,
                    Due.NOTE, 2);
            Due.same("marked as " + wait + " begins: run()", () -> yard.run(), 4);
            Due.looks("marked as " + wait + " begins", yard, 0, OVERRUN, -1, 0, 1, 0, 0, 1);
            Due.notes("marked as " + wait + " begins", yard, 1, 0, 2);
            Due.warnings("marked as " + wait + " begins", yard);

            TimeoutYard bare = Due.yardWith(1, Due.WORK, 2, wait, 9, Due.NOTE, 1);
            Due.same("marked and unguarded as " + wait + " begins: run()", () -> bare.run(), 3);
            Due.notes("marked and unguarded as " + wait + " begins", bare);
            Due.warnings("marked and unguarded as " + wait + " begins", bare, 100);
        }
    }

    private static void blockGoesOnByInterruptAlone() {
        TimeoutYard yard = Due.yardWith(50, Due.GUARD, 1, Due.BLOCK, 0, Due.NOTE, 3);
        Due.same("block: run()", () -> yard.run(), 51);
        Due.looks("block", yard, 0, OVERRUN, -1, 0, 50, 0, 0, 1);
        Due.notes("block", yard, 3);
    }

    private static void throwIsNotCaught() {
        for (int number : new int[] {0, 1, 99}) {
            TimeoutYard yard = Due.yardWith(0, Due.GUARD, 9, Due.THROW, number, Due.NOTE, 1);
            Due.same("throw " + number + ": run()", () -> yard.run(), 1);
            Due.looks("throw " + number, yard, 0, FAILED, number, 0, 0, 0, 0, 1);
            Due.notes("throw " + number, yard);
            Due.warnings("throw " + number, yard);
        }
    }

    private static void guards() {
        for (int length = 0; length <= 9; length++) {
            for (int place = 1; place <= 4; place++) {
                guardAndBlock(length, place);
            }
        }
    }

    /** A guard with five notes behind it, one of which is a block instead. */
    private static void guardAndBlock(int length, int place) {
        int[] actions = {Due.GUARD, length, Due.NOTE, 1, Due.NOTE, 2, Due.NOTE, 3, Due.NOTE, 4, Due.NOTE, 5};
        actions[2 * place] = Due.BLOCK;
        TimeoutYard yard = Due.yardWith(1, actions);
        yard.run();
        String name = "guard " + length + ", block at " + place;
        boolean isCaught = place <= length;
        int behind = isCaught ? Math.max(0, 5 - length) : 0;
        Due.same(name + ": count(1)", () -> yard.count(1), place - 1 + behind);
        if (behind > 0) {
            Due.same(name + ": first note behind", () -> yard.note(place - 1), 6 - behind);
        }
        Due.same(name + ": count(2)", () -> yard.count(2), isCaught ? 0 : 1);
    }

    private static void guardsInOneAnother() {
        TimeoutYard innermost = Due.yardWith(1, Due.GUARD, 4, Due.GUARD, 1, Due.BLOCK, 0, Due.NOTE, 3, Due.NOTE, 4,
                Due.NOTE, 5);
        innermost.run();
        Due.notes("the innermost catches", innermost, 3, 4, 5);

        TimeoutYard outer = Due.yardWith(1, Due.GUARD, 4, Due.GUARD, 1, Due.NOTE, 2, Due.BLOCK, 0, Due.NOTE, 4, Due.NOTE, 5);
        outer.run();
        Due.notes("behind the inner one the outer catches", outer, 2, 5);

        TimeoutYard cut = Due.yardWith(1, Due.GUARD, 3, Due.GUARD, 9, Due.BLOCK, 0, Due.NOTE, 3, Due.NOTE, 4, Due.NOTE, 5);
        cut.run();
        Due.notes("the inner one ends with the outer", cut, 4, 5);

        TimeoutYard beyond = Due.yardWith(1, Due.GUARD, 2, Due.GUARD, 9, Due.NOTE, 2, Due.BLOCK, 0, Due.NOTE, 4);
        beyond.run();
        Due.notes("beyond the outer none catches", beyond, 2);
        Due.warnings("beyond the outer none catches", beyond, 100);

        TimeoutYard twice = Due.yardWith(1, Due.GUARD, 5, Due.GUARD, 4, Due.GUARD, 9, Due.BLOCK, 0, Due.NOTE, 4, Due.NOTE, 5,
                Due.NOTE, 6);
        twice.run();
        Due.notes("three in one another", twice, 6);

        TimeoutYard empty = Due.yardWith(1, Due.GUARD, 3, Due.GUARD, 0, Due.BLOCK, 0, Due.NOTE, 3, Due.NOTE, 4);
        empty.run();
        Due.notes("an empty guard catches nothing", empty, 4);

        TimeoutYard again = new TimeoutYard();
        Due.program(again, 0, Due.STRAY, 1, Due.WORK, 2, Due.MARK, 0, Due.WORK, 2, Due.MARK, 0, Due.JOIN, 0);
        Due.program(again, 1, Due.GUARD, 5, Due.GUARD, 1, Due.BLOCK, 0, Due.NOTE, 3, Due.BLOCK, 0, Due.NOTE, 5,
                Due.NOTE, 6);
        again.test(0, 0, 0, 0);
        Due.same("caught twice: run()", () -> again.run(), 6);
        Due.notes("caught twice", again, 3, 6);
        Due.looks("caught twice", again, 0, PASSED, -1, 0, 5, 0, 0, 2);
    }

    private static void strayBeginsInTheNextTick() {
        TimeoutYard yard = new TimeoutYard();
        Due.program(yard, 0, Due.STRAY, 1, Due.NOTE, 1, Due.WORK, 1, Due.NOTE, 2, Due.WORK, 1, Due.NOTE, 3);
        Due.program(yard, 1, Due.NOTE, 11, Due.STRAY, 2);
        Due.program(yard, 2, Due.NOTE, 22);
        yard.test(0, 0, 0, 0);
        Due.same("stray: run()", () -> yard.run(), 3);
        Due.notes("stray", yard, 1, 2, 11, 3, 22);
        Due.looks("stray", yard, 0, PASSED, -1, 0, 2, 0, 0, 3);
    }

    private static void joinWaitsForItsOwn() {
        TimeoutYard yard = new TimeoutYard();
        Due.program(yard, 0, Due.JOIN, 0, Due.NOTE, 1, Due.STRAY, 1, Due.JOIN, 0, Due.NOTE, 2);
        Due.program(yard, 1, Due.STRAY, 2, Due.WORK, 2);
        Due.program(yard, 2, Due.WORK, 20);
        yard.test(0, 0, 0, 0);
        Due.same("join: run()", () -> yard.run(), 5);
        Due.looks("join does not wait for what its strays started", yard, 0, PASSED, -1, 0, 4, 0, 0, 3);
        Due.notes("join", yard, 1, 2);
        Due.same("join: count(3)", () -> yard.count(3), 1);

        TimeoutYard thrown = new TimeoutYard();
        Due.program(thrown, 0, Due.STRAY, 1, Due.STRAY, 2, Due.JOIN, 0);
        Due.program(thrown, 1, Due.WORK, 1);
        Due.program(thrown, 2, Due.WORK, 3, Due.THROW, 5);
        thrown.test(0, 0, 0, 0);
        Due.same("join waits for all: run()", () -> thrown.run(), 6);
        Due.looks("join waits for all", thrown, 0, FAILED, 5, 0, 5, 0, 0, 3);
    }

    private static void joinIsInterrupted() {
        TimeoutYard yard = new TimeoutYard();
        Due.program(yard, 0, Due.STRAY, 1, Due.GUARD, 2, Due.JOIN, 0, Due.NOTE, 1, Due.NOTE, 2);
        Due.program(yard, 1, Due.WORK, 20);
        yard.test(0, 3, 0, 0);
        Due.same("join interrupted: run()", () -> yard.run(), 4);
        Due.notes("join interrupted", yard, 2);

        // The stray is over at time 2, so that join would go on at 3: in the turn of the timeout.
        TimeoutYard tie = new TimeoutYard();
        Due.program(tie, 0, Due.STRAY, 1, Due.GUARD, 2, Due.JOIN, 0, Due.NOTE, 1, Due.NOTE, 2);
        Due.program(tie, 1, Due.WORK, 1);
        tie.test(0, 3, 0, 0);
        tie.run();
        Due.notes("join done and interrupted in one turn", tie, 2);
    }

    private static void lookTakesTheMark() {
        TimeoutYard yard = Due.yardWith(1, Due.LOOK, 0, Due.WORK, 2, Due.LOOK, 0, Due.LOOK, 0, Due.SLEEP, 1, Due.NOTE, 9);
        Due.same("look: run()", () -> yard.run(), 4);
        Due.notes("look", yard, 0, 1, 0, 9);
        Due.warnings("look", yard);
    }

    private static void keepIsSilent() {
        TimeoutYard first = Due.yardWith(0, Due.KEEP, 0, Due.THROW, 7);
        first.run();
        Due.looks("keep of the first thread", first, 0, FAILED, 7, 0, 0, 0, 0, 1);

        TimeoutYard overrun = Due.yardWith(1, Due.KEEP, 0, Due.BLOCK, 0);
        overrun.run();
        Due.looks("keep of an overrun", overrun, 0, OVERRUN, -1, 0, 1, 0, 0, 1);
        Due.warnings("keep of an overrun", overrun);

        TimeoutYard stray = new TimeoutYard();
        Due.program(stray, 0, Due.STRAY, 1, Due.STRAY, 2, Due.WORK, 3);
        Due.program(stray, 1, Due.KEEP, 0, Due.THROW, 1);
        Due.program(stray, 2, Due.WORK, 1, Due.KEEP, 0, Due.WORK, 3, Due.THROW, 2);
        Due.program(stray, 3, Due.WORK, 3);
        stray.test(0, 0, 0, 0);
        stray.test(3, 0, 0, 0);
        Due.same("keep of strays: run()", () -> stray.run(), 8);
        Due.looks("keep of strays", stray, 0, PASSED, -1, 0, 3, 0, 0, 3);
        Due.warnings("keep of strays", stray);
        Due.same("keep of strays: count(3)", () -> stray.count(3), 0);

        TimeoutYard own = new TimeoutYard();
        Due.program(own, 0, Due.KEEP, 0, Due.STRAY, 1, Due.JOIN, 0);
        Due.program(own, 1, Due.THROW, 4);
        own.test(0, 0, 0, 0);
        own.run();
        Due.looks("keep holds for the thread itself alone", own, 0, FAILED, 4, 0, 2, 0, 0, 2);
    }

    private static void endIsTheEnd() {
        TimeoutYard yard = Due.yardWith(0, Due.GUARD, 2, Due.NOTE, 1, Due.END, 0, Due.NOTE, 2, Due.THROW, 3);
        Due.same("end: run()", () -> yard.run(), 1);
        Due.looks("end", yard, 0, PASSED, -1, 0, 0, 0, 0, 1);
        Due.notes("end", yard, 1);
    }

    private static void markMarksItsOwn() {
        TimeoutYard yard = new TimeoutYard();
        Due.program(yard, 0, Due.STRAY, 1, Due.STRAY, 2, Due.WORK, 3, Due.MARK, 0, Due.LOOK, 0, Due.WORK, 5);
        Due.program(yard, 1, Due.STRAY, 3, Due.WORK, 5, Due.LOOK, 0);
        Due.program(yard, 2, Due.BLOCK, 0);
        Due.program(yard, 3, Due.WORK, 6, Due.LOOK, 0);
        yard.test(0, 0, 0, 0);
        Due.same("mark: run()", () -> yard.run(), 9);
        Due.notes("mark: not itself, its own, not those of others", yard, 0, 1, 0);
        Due.looks("mark", yard, 0, FAILED, 100, 0, 8, 0, 0, 4);

        TimeoutYard fresh = new TimeoutYard();
        Due.program(fresh, 0, Due.STRAY, 1, Due.MARK, 0, Due.JOIN, 0);
        Due.program(fresh, 1, Due.GUARD, 1, Due.SLEEP, 5, Due.NOTE, 8);
        fresh.test(0, 0, 0, 0);
        Due.same("marked before its first turn: run()", () -> fresh.run(), 3);
        Due.notes("marked before its first turn", fresh, 8);

        TimeoutYard twoTests = new TimeoutYard();
        Due.program(twoTests, 0, Due.STRAY, 1, Due.WORK, 2, Due.MARK, 0, Due.JOIN, 0);
        Due.program(twoTests, 1, Due.WORK, 2, Due.LOOK, 0);
        Due.program(twoTests, 2, Due.STRAY, 1, Due.WORK, 2, Due.JOIN, 0);
        twoTests.workers(2);
        twoTests.test(0, 0, 0, 0);
        twoTests.test(2, 0, 0, 0);
        twoTests.run();
        Due.notes("mark does not reach another test", twoTests, 1, 100);
    }

    private static void verdictByTheFirstThatDied() {
        TimeoutYard yard = new TimeoutYard();
        Due.program(yard, 0, Due.STRAY, 1, Due.STRAY, 2, Due.STRAY, 3, Due.JOIN, 0);
        Due.program(yard, 1, Due.WORK, 3, Due.THROW, 11);
        Due.program(yard, 2, Due.WORK, 2, Due.THROW, 22);
        Due.program(yard, 3, Due.KEEP, 0, Due.THROW, 33);
        yard.test(0, 0, 0, 0);
        yard.run();
        Due.looks("the first that died", yard, 0, FAILED, 22, 0, 5, 0, 0, 4);
        Due.warnings("the first that died", yard);

        TimeoutYard own = new TimeoutYard();
        Due.program(own, 0, Due.STRAY, 1, Due.JOIN, 0, Due.THROW, 44);
        Due.program(own, 1, Due.THROW, 0);
        own.test(0, 0, 0, 0);
        own.run();
        Due.looks("its own death comes first", own, 0, FAILED, 44, 0, 2, 0, 0, 2);

        TimeoutYard zero = new TimeoutYard();
        Due.program(zero, 0, Due.STRAY, 1, Due.JOIN, 0);
        Due.program(zero, 1, Due.THROW, 0);
        zero.test(0, 0, 0, 0);
        zero.run();
        Due.looks("what it died of may be 0", zero, 0, FAILED, 0, 0, 2, 0, 0, 2);

        TimeoutYard grandchild = new TimeoutYard();
        Due.program(grandchild, 0, Due.STRAY, 1, Due.WORK, 4);
        Due.program(grandchild, 1, Due.STRAY, 2);
        Due.program(grandchild, 2, Due.THROW, 66);
        grandchild.test(0, 0, 0, 0);
        grandchild.run();
        Due.looks("threads of its threads count", grandchild, 0, FAILED, 66, 0, 4, 0, 0, 3);
    }

    /** The first thread has its turn before its strays: what they die of in that tick is behind the verdict. */
    private static void verdictComesInTheTurn() {
        TimeoutYard yard = new TimeoutYard();
        Due.program(yard, 0, Due.STRAY, 1, Due.WORK, 2);
        Due.program(yard, 1, Due.WORK, 1, Due.THROW, 5);
        yard.test(0, 0, 0, 0);
        Due.same("in one tick: run()", () -> yard.run(), 3);
        Due.looks("in one tick", yard, 0, PASSED, -1, 0, 2, 0, 0, 2);
        Due.warnings("in one tick", yard, 5);
    }

    /** What takes no time neither notes, nor keeps, nor marks, nor starts a thread, unless it is the action for it. */
    private static void eachActionDoesItsOwnAlone() {
        for (int op : new int[] {Due.GUARD, Due.STRAY, Due.NOTE, Due.LOOK, Due.KEEP, Due.MARK}) {
            TimeoutYard yard = Due.yardWith(0, Due.STRAY, 1, Due.JOIN, 0);
            Due.program(yard, 1, Due.STRAY, 2, op, 3, Due.WORK, 2, Due.THROW, 5);
            Due.program(yard, 2, Due.WORK, 1, Due.LOOK, 0);
            String name = "op " + op + " alone";
            Due.same(name + ": run()", () -> yard.run(), 5);
            boolean isKept = op == Due.KEEP;
            Due.looks(name, yard, 0, isKept ? PASSED : FAILED, isKept ? -1 : 5, 0, 4, 0, 0, op == Due.STRAY ? 4 : 3);
            int mark = op == Due.MARK ? 1 : 0;
            if (op == Due.NOTE || op == Due.LOOK) {
                Due.notes(name, yard, op == Due.NOTE ? 3 : 0, mark);
            } else {
                Due.notes(name, yard, mark);
            }
            Due.warnings(name, yard);
        }
    }
}
