/** Promise 4: workers: how many there were, its bounds, and what they do in a run. */
public final class WorkersTest {
    public static void main(String[] args) {
        howManyThereWere();
        isNot1To4();
        refusedOnesChangeNothing();
        asManyAtOnce();
        latestRunKeepsItsOwn();
        lowestFreeWorker();
        Due.finish();
    }

    private static void howManyThereWere() {
        TimeoutYard yard = new TimeoutYard();
        int[] all = {4, 4, 3, 2, 1, 1, 2, 4};
        int before = 1;
        for (int n : all) {
            Due.same("workers(" + n + ")", () -> yard.workers(n), before);
            before = n;
        }
    }

    private static void isNot1To4() {
        for (int n = 1; n <= 4; n++) {
            int asked = n;
            Due.same("workers(" + n + ") of a new one", () -> new TimeoutYard().workers(asked), 1);
        }
        for (int bad : Due.outside(1, 4)) {
            Due.refused("workers(" + bad + ")", Due::inUse, yard -> yard.workers(bad), Due.ILLEGAL);
            Due.refused("workers(" + bad + ") of a new one", TimeoutYard::new, yard -> yard.workers(bad), Due.ILLEGAL);
        }
    }

    private static void refusedOnesChangeNothing() {
        TimeoutYard yard = new TimeoutYard();
        yard.workers(2);
        for (int bad : Due.outside(1, 4)) {
            Due.thrown("workers(" + bad + ")", () -> yard.workers(bad), Due.ILLEGAL);
        }
        for (int t = 0; t < 6; t++) {
            yard.test(0, 0, 0, 0);
        }
        Due.same("run() behind refused ones", () -> yard.run(), 3);
        Due.same("count(5) behind refused ones", () -> yard.count(5), 2);
        Due.same("workers(3) behind refused ones", () -> yard.workers(3), 2);
    }

    private static void asManyAtOnce() {
        TimeoutYard yard = new TimeoutYard();
        Due.program(yard, 0, Due.WORK, 2);
        for (int t = 0; t < 12; t++) {
            yard.test(0, 0, 0, 0);
        }
        int[] ends = {0, 36, 18, 12, 9};
        for (int n = 4; n >= 1; n--) {
            yard.workers(n);
            Due.same("run() with workers " + n, () -> yard.run(), ends[n]);
            Due.same("count(5) with workers " + n, () -> yard.count(5), n);
            Due.looks("last of twelve, workers " + n, yard, 11, TimeoutYard.PASSED, -1, ends[n] - 3, ends[n] - 1, n - 1);
        }
    }

    private static void latestRunKeepsItsOwn() {
        TimeoutYard yard = new TimeoutYard();
        for (int t = 0; t < 4; t++) {
            yard.test(0, 0, 0, 0);
        }
        yard.workers(4);
        yard.run();
        yard.workers(1);
        Due.looks("workers change no run", yard, 3, TimeoutYard.PASSED, -1, 0, 0, 3, 0, 1);
        Due.same("workers change no run: count(5)", () -> yard.count(5), 4);
    }

    private static void lowestFreeWorker() {
        TimeoutYard yard = new TimeoutYard();
        Due.program(yard, 0, Due.WORK, 5);
        Due.program(yard, 1, Due.WORK, 2);
        yard.workers(3);
        int[] programs = {0, 1, 1, 1, 1};
        for (int p : programs) {
            yard.test(p, 0, 0, 0);
        }
        Due.same("run()", () -> yard.run(), 6);
        int[] workers = {0, 1, 2, 1, 2};
        for (int t = 0; t < 5; t++) {
            Due.looks("lowest free worker", yard, t, TimeoutYard.PASSED, -1, t < 3 ? 0 : 3, t == 0 ? 5 : t < 3 ? 2 : 5,
                    workers[t], 0, 1);
        }
    }
}
