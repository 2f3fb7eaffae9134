/** Promise 2: action: how many there are, its bounds, and which exception comes first. */
public final class ActionTest {
    private static final int FAR = Integer.MAX_VALUE;

    public static void main(String[] args) {
        countsUpToTen();
        bounds();
        argumentsThatAreNotLookedAt();
        illegalComesFirst();
        refusedActionsLeaveNoTrace();
        Due.finish();
    }

    private static void countsUpToTen() {
        TimeoutYard yard = new TimeoutYard();
        for (int i = 1; i <= 10; i++) {
            Due.same("action " + i + " of 9", () -> yard.action(9, Due.NOTE, 0), i);
        }
        Due.thrown("action 11 of 9", () -> yard.action(9, Due.NOTE, 0), Due.OUTSIDE);
        Due.thrown("action 12 of 9", () -> yard.action(9, Due.NOTE, 0), Due.OUTSIDE);
        Due.same("action 1 of 0", () -> yard.action(0, Due.NOTE, 0), 1);
    }

    private static void bounds() {
        for (int bad : new int[] {-1, 10, FAR, Integer.MIN_VALUE}) {
            Due.thrown("p " + bad, () -> new TimeoutYard().action(bad, Due.NOTE, 0), Due.ILLEGAL);
        }
        for (int bad : new int[] {-1, 12, FAR, Integer.MIN_VALUE}) {
            Due.thrown("op " + bad, () -> new TimeoutYard().action(0, bad, 1), Due.ILLEGAL);
        }
        range(Due.WORK, 1, 20);
        range(Due.SLEEP, 1, 20);
        range(Due.THROW, 0, 99);
        range(Due.GUARD, 0, 9);
        range(Due.STRAY, 0, 9);
        range(Due.NOTE, 0, 99);
    }

    private static void range(int op, int low, int high) {
        for (int a = low; a <= high; a++) {
            int asked = a;
            Due.same("action(0, " + op + ", " + a + ")", () -> new TimeoutYard().action(0, op, asked), 1);
        }
        for (int bad : new int[] {low - 1, high + 1, FAR, Integer.MIN_VALUE}) {
            Due.thrown("action(0, " + op + ", " + bad + ")", () -> new TimeoutYard().action(0, op, bad), Due.ILLEGAL);
        }
    }

    private static void argumentsThatAreNotLookedAt() {
        int[] ops = {Due.BLOCK, Due.JOIN, Due.LOOK, Due.KEEP, Due.END, Due.MARK};
        for (int op : ops) {
            for (int a : new int[] {Integer.MIN_VALUE, -1, 0, 100, FAR}) {
                Due.same("action(0, " + op + ", " + a + ")", () -> new TimeoutYard().action(0, op, a), 1);
            }
        }
    }

    private static void illegalComesFirst() {
        TimeoutYard yard = new TimeoutYard();
        for (int i = 0; i < 10; i++) {
            yard.action(3, Due.END, 0);
        }
        Due.thrown("full, and op 12", () -> yard.action(3, 12, 0), Due.ILLEGAL);
        Due.thrown("full, and WORK 0", () -> yard.action(3, Due.WORK, 0), Due.ILLEGAL);
        Due.thrown("full", () -> yard.action(3, Due.WORK, 1), Due.OUTSIDE);
    }

    private static void refusedActionsLeaveNoTrace() {
        TimeoutYard yard = new TimeoutYard();
        yard.action(0, Due.NOTE, 7);
        Due.thrown("NOTE 100", () -> yard.action(0, Due.NOTE, 100), Due.ILLEGAL);
        Due.same("NOTE 8", () -> yard.action(0, Due.NOTE, 8), 2);
        yard.test(0, 0, 0, 0);
        yard.run();
        Due.notes("refused actions", yard, 7, 8);
        Due.same("an action between runs", () -> yard.action(0, Due.NOTE, 9), 3);
        yard.run();
        Due.notes("an action more", yard, 7, 8, 9);
    }
}
