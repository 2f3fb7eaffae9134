/** Promise 2: action: how many there are, and each of its bounds. */
public final class ActionTest {
    public static void main(String[] args) {
        howManyItHas();
        programIsNot0To9();
        opIsNot0To11();
        argumentIsNot("WORK", Due.WORK, 1, 20);
        argumentIsNot("SLEEP", Due.SLEEP, 1, 20);
        argumentIsNot("THROW", Due.THROW, 0, 99);
        argumentIsNot("GUARD", Due.GUARD, 0, 9);
        argumentIsNot("STRAY", Due.STRAY, 0, 9);
        argumentIsNot("NOTE", Due.NOTE, 0, 99);
        whatHasNoneIsNotLookedAt();
        itHasTen();
        itHasTenAndIsIllegal();
        refusedActionsAreNotDone();
        Due.finish();
    }

    private static void howManyItHas() {
        TimeoutYard yard = new TimeoutYard();
        for (int i = 1; i <= 10; i++) {
            for (int p = 0; p < 10; p++) {
                int asked = p;
                Due.same("action " + i + " of program " + p, () -> yard.action(asked, Due.NOTE, 0), i);
            }
        }
    }

    private static void programIsNot0To9() {
        for (int p = 0; p <= 9; p++) {
            int asked = p;
            Due.same("p " + p, () -> new TimeoutYard().action(asked, Due.NOTE, 0), 1);
        }
        for (int bad : Due.outside(0, 9)) {
            Due.refused("p " + bad, Due::inUse, yard -> yard.action(bad, Due.NOTE, 0), Due.ILLEGAL);
        }
    }

    private static void opIsNot0To11() {
        for (int op = 0; op <= 11; op++) {
            int asked = op;
            Due.same("op " + op, () -> new TimeoutYard().action(0, asked, 1), 1);
        }
        for (int bad : Due.outside(0, 11)) {
            Due.refused("op " + bad, Due::inUse, yard -> yard.action(0, bad, 1), Due.ILLEGAL);
        }
    }

    private static void argumentIsNot(String name, int op, int low, int high) {
        for (int a = low; a <= high; a++) {
            int asked = a;
            Due.same(name + " " + a, () -> new TimeoutYard().action(0, op, asked), 1);
        }
        for (int bad : Due.outside(low, high)) {
            Due.refused(name + " " + bad, Due::inUse, yard -> yard.action(0, op, bad), Due.ILLEGAL);
        }
    }

    private static void whatHasNoneIsNotLookedAt() {
        int[] ops = {Due.BLOCK, Due.JOIN, Due.LOOK, Due.KEEP, Due.END, Due.MARK};
        for (int op : ops) {
            for (int a : new int[] {Integer.MIN_VALUE, -1, 0, 1, 10, 21, 100, Integer.MAX_VALUE}) {
                Due.same("op " + op + " with " + a, () -> new TimeoutYard().action(0, op, a), 1);
            }
        }
    }

    private static void itHasTen() {
        for (int op = 0; op <= 11; op++) {
            int asked = op;
            Due.refused("full, and op " + op, Due::inUse, yard -> yard.action(9, asked, 1), Due.OUTSIDE);
        }
        TimeoutYard yard = new TimeoutYard();
        for (int i = 1; i <= 9; i++) {
            yard.action(3, Due.NOTE, i);
        }
        Due.same("the tenth", () -> yard.action(3, Due.NOTE, 10), 10);
        Due.thrown("the eleventh", () -> yard.action(3, Due.NOTE, 11), Due.OUTSIDE);
        Due.thrown("the eleventh, once more", () -> yard.action(3, Due.NOTE, 11), Due.OUTSIDE);
        Due.same("the program before it", () -> yard.action(2, Due.NOTE, 12), 1);
        Due.same("the program behind it", () -> yard.action(4, Due.NOTE, 13), 1);
        yard.test(3, 0, 0, 0);
        yard.run();
        Due.notes("all ten, and no more", yard, 1, 2, 3, 4, 5, 6, 7, 8, 9, 10);
    }

    /** The document tells the illegal ones first. */
    private static void itHasTenAndIsIllegal() {
        Due.refused("full, and op 12", Due::inUse, yard -> yard.action(9, 12, 0), Due.ILLEGAL);
        Due.refused("full, and op -1", Due::inUse, yard -> yard.action(9, -1, 0), Due.ILLEGAL);
        Due.refused("full, and WORK 0", Due::inUse, yard -> yard.action(9, Due.WORK, 0), Due.ILLEGAL);
        Due.refused("full, and NOTE 100", Due::inUse, yard -> yard.action(9, Due.NOTE, 100), Due.ILLEGAL);
    }

    private static void refusedActionsAreNotDone() {
        TimeoutYard yard = Due.yardWith(0, Due.NOTE, 7);
        Due.thrown("NOTE 100", () -> yard.action(0, Due.NOTE, 100), Due.ILLEGAL);
        Due.thrown("op 12", () -> yard.action(0, 12, 0), Due.ILLEGAL);
        Due.same("NOTE 8", () -> yard.action(0, Due.NOTE, 8), 2);
        yard.run();
        Due.notes("refused actions", yard, 7, 8);
        Due.same("an action between runs", () -> yard.action(0, Due.NOTE, 9), 3);
        Due.notes("not done before the next run", yard, 7, 8);
        yard.run();
        Due.notes("an action more", yard, 7, 8, 9);
    }
}
