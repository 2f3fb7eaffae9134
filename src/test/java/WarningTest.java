/** Promise 8: warning: which are kept, what they say, and wrong inputs. */
public final class WarningTest {
    public static void main(String[] args) {
        testAndDeath();
        firstEight();
        Due.finish();
    }

    private static void testAndDeath() {
        TimeoutYard yard = new TimeoutYard();
        Due.program(yard, 0, Due.STRAY, 1);
        Due.program(yard, 1, Due.THROW, 0);
        Due.program(yard, 2, Due.SLEEP, 9);
        Due.program(yard, 3, Due.THROW, 77);
        for (int t = 0; t < 9; t++) {
            yard.test(4, 0, 0, 0);
        }
        yard.test(0, 0, 0, 0);
        yard.test(3, 0, 0, 0);
        yard.test(2, 1, 0, 0);
        Due.same("run()", () -> yard.run(), 13);
        Due.looks("the stray dies behind the verdict", yard, 9, TimeoutYard.PASSED, -1, 9, 9, 0, 0, 2);
        Due.warnings("test and death", yard, 9000, 11100);
        for (int k : new int[] {-1, 2, 8, Integer.MAX_VALUE, Integer.MIN_VALUE}) {
            Due.thrown("warning(" + k + ")", () -> yard.warning(k), Due.OUTSIDE);
        }
        yard.run();
        Due.warnings("test and death, again", yard, 9000, 11100);
    }

    private static void firstEight() {
        TimeoutYard yard = new TimeoutYard();
        Due.program(yard, 0, Due.STRAY, 1, Due.STRAY, 2, Due.STRAY, 1, Due.STRAY, 1, Due.STRAY, 1);
        Due.program(yard, 1, Due.THROW, 1);
        Due.program(yard, 2, Due.THROW, 2);
        Due.program(yard, 3, Due.WORK, 1);
        yard.test(0, 0, 0, 0);
        yard.test(0, 0, 0, 0);
        yard.test(3, 0, 0, 0);
        yard.run();
        int[] due = {1, 2, 1, 1, 1, 1001, 1002, 1001};
        for (int k = 0; k < 8; k++) {
            int asked = k;
            Due.same("warning(" + k + ")", () -> yard.warning(asked), due[k]);
        }
        for (int k : new int[] {8, 9, 10}) {
            Due.thrown("warning(" + k + ")", () -> yard.warning(k), Due.OUTSIDE);
        }
        Due.same("count(2): all warnings, kept or not", () -> yard.count(2), 10);
    }
}
