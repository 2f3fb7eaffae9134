/** Promise 8: warning: which are kept, what they say, and where there is none. */
public final class WarningTest {
    public static void main(String[] args) {
        testAndDeath();
        lowestAndHighest();
        eightAreKept();
        thereIsNone();
        Due.finish();
    }

    private static void testAndDeath() {
        TimeoutYard yard = new TimeoutYard();
        Due.program(yard, 0, Due.STRAY, 1);
        Due.program(yard, 1, Due.THROW, 0);
        Due.program(yard, 2, Due.SLEEP, 9);
        Due.program(yard, 3, Due.THROW, 77);
        for (int t = 0; t < 9; t++) {
            yard.test(4, 0, 0, 0);
        }
        yard.test(0, 0, 0, 0);
        yard.test(3, 0, 0, 0);
        yard.test(2, 1, 0, 0);
        Due.same("run()", () -> yard.run(), 13);
        Due.looks("the stray dies behind the verdict", yard, 9, TimeoutYard.PASSED, -1, 9, 9, 0, 0, 2);
        Due.warnings("test and death", yard, 9000, 11100);
        yard.run();
        Due.warnings("those of the run before are forgotten", yard, 9000, 11100);
    }

    private static void lowestAndHighest() {
        TimeoutYard yard = Due.yardWith(0, Due.STRAY, 1, Due.STRAY, 2, Due.STRAY, 3, Due.MARK, 0);
        Due.program(yard, 1, Due.THROW, 0);
        Due.program(yard, 2, Due.THROW, 99);
        Due.program(yard, 3, Due.BLOCK, 0);
        yard.test(0, 0, 0, 0);
        yard.test(4, 0, 0, 0);
        yard.run();
        Due.warnings("lowest and highest", yard, 0, 99, 100, 1000, 1099, 1100);
    }

    /** Makes a yard whose run has so many warnings, each of a stray that dies of its number: 0, 1, 2 and on. */
    private static TimeoutYard withWarnings(int many) {
        TimeoutYard yard = new TimeoutYard();
        Due.program(yard, 9, Due.WORK, 1);
        for (int i = 0; i < many; i++) {
            yard.action(0, Due.STRAY, i < 8 ? i + 1 : 8);
        }
        for (int p = 1; p <= 8; p++) {
            yard.action(p, Due.THROW, p - 1);
        }
        yard.test(0, 0, 0, 0);
        yard.test(9, 0, 0, 0);
        yard.run();
        return yard;
    }

    private static void eightAreKept() {
        for (int many : new int[] {0, 1, 7, 8, 9, 10}) {
            TimeoutYard yard = withWarnings(many);
            for (int k = 0; k <= 10; k++) {
                int asked = k;
                String due = k < many && k < 8 ? String.valueOf(k) : Due.OUTSIDE;
                Due.same(many + " warnings: warning(" + k + ")", Due.outcome(() -> yard.warning(asked)), due);
            }
            Due.same(many + " warnings, kept or not: count(2)", () -> yard.count(2), many);
        }
    }

    private static void thereIsNone() {
        Due.refused("before the first run", TimeoutYard::new, yard -> yard.warning(0), Due.OUTSIDE);
        for (int k : Due.outside(0, 7)) {
            Due.refused("all are kept that can be: warning(" + k + ")", () -> withWarnings(8), yard -> yard.warning(k),
                    Due.OUTSIDE);
        }
        Due.warnings("two warnings", Due.inUse(), 1100, 3);
        for (int k : Due.outside(0, 1)) {
            Due.refused("two warnings: warning(" + k + ")", Due::inUse, yard -> yard.warning(k), Due.OUTSIDE);
        }
        TimeoutYard failed = Due.yardWith(0, Due.THROW, 5);
        failed.run();
        Due.warnings("what a test failed with is no warning", failed);

        TimeoutYard left = Due.yardWith(0, Due.STRAY, 1);
        Due.program(left, 1, Due.THROW, 5);
        left.run();
        Due.warnings("who is left ends without a trace", left);
    }
}
