/** Promise 3: test: its number, its bounds, and which exception comes first. */
public final class TestCallTest {
    public static void main(String[] args) {
        numbers();
        bounds();
        Due.finish();
    }

    private static void numbers() {
        TimeoutYard yard = new TimeoutYard();
        for (int t = 0; t < 12; t++) {
            Due.same("test " + t, () -> yard.test(0, 0, 0, 0), t);
        }
        Due.thrown("test 12", () -> yard.test(0, 0, 0, 0), Due.OUTSIDE);
        Due.thrown("test 12, and p 10", () -> yard.test(10, 0, 0, 0), Due.ILLEGAL);
        Due.thrown("test 12, and timeout 51", () -> yard.test(0, 51, 0, 0), Due.ILLEGAL);
        Due.same("count(0)", () -> yard.count(0), 12);
        Due.same("run()", () -> yard.run(), 12);
        Due.looks("twelve tests, one worker", yard, 11, TimeoutYard.PASSED, -1, 11, 11, 0, 0, 1);
    }

    private static void bounds() {
        TimeoutYard yard = new TimeoutYard();
        for (int bad : new int[] {-1, 10, Integer.MAX_VALUE, Integer.MIN_VALUE}) {
            Due.thrown("p " + bad, () -> yard.test(bad, 0, 0, 0), Due.ILLEGAL);
        }
        for (int bad : new int[] {-1, 51, Integer.MAX_VALUE, Integer.MIN_VALUE}) {
            Due.thrown("timeout " + bad, () -> yard.test(0, bad, 0, 0), Due.ILLEGAL);
        }
        for (int bad : new int[] {-1, 16, Integer.MAX_VALUE, Integer.MIN_VALUE}) {
            Due.thrown("reading " + bad, () -> yard.test(0, 0, bad, 0), Due.ILLEGAL);
            Due.thrown("writing " + bad, () -> yard.test(0, 0, 0, bad), Due.ILLEGAL);
        }
        Due.same("count(0) behind refused tests", () -> yard.count(0), 0);
        Due.same("the highest of each", () -> yard.test(9, 50, 15, 15), 0);
        Due.same("the lowest of each", () -> yard.test(0, 0, 0, 0), 1);
        Due.same("count(0)", () -> yard.count(0), 2);
    }
}
