/** Promise 4: workers: how many there were, its bounds, and what they do in a run. */
public final class WorkersTest {
    public static void main(String[] args) {
        answers();
        asManyAtOnce();
        lowestFreeWorker();
        Due.finish();
    }

    private static void answers() {
        TimeoutYard yard = new TimeoutYard();
        Due.same("workers(4)", () -> yard.workers(4), 1);
        Due.same("workers(2)", () -> yard.workers(2), 4);
        for (int bad : new int[] {0, -1, 5, Integer.MAX_VALUE, Integer.MIN_VALUE}) {
            Due.thrown("workers(" + bad + ")", () -> yard.workers(bad), Due.ILLEGAL);
        }
        Due.same("workers(3) behind refused ones", () -> yard.workers(3), 2);
        Due.same("workers(1)", () -> yard.workers(1), 3);
    }

    private static void asManyAtOnce() {
        TimeoutYard yard = new TimeoutYard();
        Due.program(yard, 0, Due.WORK, 2);
        for (int t = 0; t < 12; t++) {
            yard.test(0, 0, 0, 0);
        }
        int[] ends = {0, 36, 18, 12, 9};
        for (int n = 4; n >= 1; n--) {
            yard.workers(n);
            Due.same("run() with workers " + n, () -> yard.run(), ends[n]);
            Due.same("count(5) with workers " + n, () -> yard.count(5), n);
        }
    }

    private static void lowestFreeWorker() {
        TimeoutYard yard = new TimeoutYard();
        Due.program(yard, 0, Due.WORK, 5);
        Due.program(yard, 1, Due.WORK, 2);
        yard.workers(3);
        int[] programs = {0, 1, 1, 1, 1};
        for (int p : programs) {
            yard.test(p, 0, 0, 0);
        }
        Due.same("run()", () -> yard.run(), 6);
        int[] workers = {0, 1, 2, 1, 2};
        for (int t = 0; t < 5; t++) {
            Due.looks("lowest free worker", yard, t, TimeoutYard.PASSED, -1, t < 3 ? 0 : 3, t == 0 ? 5 : t < 3 ? 2 : 5,
                    workers[t], 0, 1);
        }
    }
}
