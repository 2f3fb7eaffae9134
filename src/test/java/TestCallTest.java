/** Promise 3: test: its number, and each of its bounds, as it is given and as it is run. */
public final class TestCallTest {
    public static void main(String[] args) {
        itsNumber();
        programIsNot0To9();
        timeoutIsNot0To50();
        setIsNot0To15();
        thereAreTwelve();
        thereAreTwelveAndItIsIllegal();
        lowestAndHighestProgram();
        lowestAndHighestTimeout();
        eachLockIsOneOfItsOwn();
        emptyAndFullSets();
        Due.finish();
    }

    private static void itsNumber() {
        TimeoutYard yard = new TimeoutYard();
        for (int t = 0; t < 12; t++) {
            Due.same("test " + t, () -> yard.test(0, 0, 0, 0), t);
            Due.same("count(0) behind test " + t, () -> yard.count(0), t + 1);
        }
        Due.same("run()", () -> yard.run(), 12);
        Due.looks("twelve tests, one worker", yard, 11, TimeoutYard.PASSED, -1, 11, 11, 0, 0, 1);
    }

    private static void programIsNot0To9() {
        for (int p = 0; p <= 9; p++) {
            int asked = p;
            Due.same("p " + p, () -> new TimeoutYard().test(asked, 0, 0, 0), 0);
        }
        for (int bad : Due.outside(0, 9)) {
            Due.refused("p " + bad, Due::inUse, yard -> yard.test(bad, 0, 0, 0), Due.ILLEGAL);
        }
    }

    private static void timeoutIsNot0To50() {
        for (int timeout = 0; timeout <= 50; timeout++) {
            int asked = timeout;
            Due.same("timeout " + timeout, () -> new TimeoutYard().test(0, asked, 0, 0), 0);
        }
        for (int bad : Due.outside(0, 50)) {
            Due.refused("timeout " + bad, Due::inUse, yard -> yard.test(0, bad, 0, 0), Due.ILLEGAL);
        }
    }

    private static void setIsNot0To15() {
        for (int set = 0; set <= 15; set++) {
            int asked = set;
            Due.same("reading " + set, () -> new TimeoutYard().test(0, 0, asked, 0), 0);
            Due.same("writing " + set, () -> new TimeoutYard().test(0, 0, 0, asked), 0);
            Due.same("both " + set, () -> new TimeoutYard().test(0, 0, asked, asked), 0);
        }
        for (int bad : Due.outside(0, 15)) {
            Due.refused("reading " + bad, Due::inUse, yard -> yard.test(0, 0, bad, 0), Due.ILLEGAL);
            Due.refused("writing " + bad, Due::inUse, yard -> yard.test(0, 0, 0, bad), Due.ILLEGAL);
        }
    }

    private static void thereAreTwelve() {
        Due.refused("a thirteenth", Due::full, yard -> yard.test(0, 0, 0, 0), Due.OUTSIDE);
        Due.refused("a thirteenth, highest of each", Due::full, yard -> yard.test(9, 50, 15, 15), Due.OUTSIDE);
        TimeoutYard yard = Due.full();
        Due.thrown("a thirteenth", () -> yard.test(3, 1, 0, 0), Due.OUTSIDE);
        Due.same("count(0)", () -> yard.count(0), 12);
        Due.thrown("look(12, 0)", () -> yard.look(12, 0), Due.ILLEGAL);
        yard.run();
        Due.looks("the twelfth is as it was", yard, 11, TimeoutYard.PASSED, -1);
    }

    /** The document tells the illegal ones first. */
    private static void thereAreTwelveAndItIsIllegal() {
        Due.refused("full, and p 10", Due::full, yard -> yard.test(10, 0, 0, 0), Due.ILLEGAL);
        Due.refused("full, and timeout 51", Due::full, yard -> yard.test(0, 51, 0, 0), Due.ILLEGAL);
        Due.refused("full, and reading 16", Due::full, yard -> yard.test(0, 0, 16, 0), Due.ILLEGAL);
        Due.refused("full, and writing -1", Due::full, yard -> yard.test(0, 0, 0, -1), Due.ILLEGAL);
    }

    private static void lowestAndHighestProgram() {
        TimeoutYard yard = new TimeoutYard();
        Due.program(yard, 0, Due.THROW, 10);
        Due.program(yard, 9, Due.THROW, 19);
        yard.test(9, 0, 0, 0);
        yard.test(0, 0, 0, 0);
        yard.run();
        Due.looks("program 9", yard, 0, TimeoutYard.FAILED, 19);
        Due.looks("program 0", yard, 1, TimeoutYard.FAILED, 10);
    }

    private static void lowestAndHighestTimeout() {
        int[] timeouts = {1, 2, 49, 50};
        for (int timeout : timeouts) {
            TimeoutYard yard = Due.yardWith(timeout, Due.BLOCK, 0);
            Due.same("timeout " + timeout + ": run()", () -> yard.run(), timeout + 1);
            Due.looks("timeout " + timeout, yard, 0, TimeoutYard.OVERRUN, -1, 0, timeout, 0, 0, 1);
        }
        TimeoutYard none = Due.yardWith(0, Due.BLOCK, 0);
        Due.same("timeout 0, which is none: run()", () -> none.run(), 150);
        Due.looks("timeout 0, which is none", none, 0, TimeoutYard.UNTRIED, -1, 0, 150, 0, 0, 1);
    }

    /** Two tests and two workers: whether the second one begins with the first. */
    private static void atOnce(int[] first, int[] second, boolean can) {
        TimeoutYard yard = new TimeoutYard();
        Due.program(yard, 0, Due.WORK, 1);
        yard.workers(2);
        yard.test(0, 0, first[0], first[1]);
        yard.test(0, 0, second[0], second[1]);
        yard.run();
        String name = "sets " + first[0] + " " + first[1] + " and " + second[0] + " " + second[1];
        Due.same(name + ": beginning of the second", () -> yard.look(1, 2), can ? 0 : 2);
    }

    private static void eachLockIsOneOfItsOwn() {
        for (int i = 0; i < 4; i++) {
            for (int j = 0; j < 4; j++) {
                int one = 1 << i;
                int other = 1 << j;
                atOnce(new int[] {0, one}, new int[] {0, other}, i != j);
                atOnce(new int[] {one, 0}, new int[] {0, other}, i != j);
                atOnce(new int[] {0, one}, new int[] {other, 0}, i != j);
                atOnce(new int[] {one, 0}, new int[] {other, 0}, true);
                atOnce(new int[] {one, one}, new int[] {other, 0}, i != j);
                atOnce(new int[] {one, 0}, new int[] {other, other}, i != j);
            }
        }
    }

    private static void emptyAndFullSets() {
        atOnce(new int[] {0, 0}, new int[] {0, 0}, true);
        atOnce(new int[] {0, 0}, new int[] {15, 15}, true);
        atOnce(new int[] {15, 15}, new int[] {0, 0}, true);
        atOnce(new int[] {15, 0}, new int[] {15, 0}, true);
        atOnce(new int[] {15, 15}, new int[] {15, 0}, false);
        atOnce(new int[] {15, 0}, new int[] {15, 15}, false);
        for (int set = 1; set <= 15; set++) {
            atOnce(new int[] {0, 15}, new int[] {set, 0}, false);
            atOnce(new int[] {0, 15}, new int[] {0, set}, false);
            atOnce(new int[] {15, 0}, new int[] {0, set}, false);
            atOnce(new int[] {0, set}, new int[] {15 - set, 15 - set}, true);
        }
    }
}
