/** Compares answers with those that are due, and ends a test with exit code 1 if one differed. */
final class Due {
    static final int WORK = 0, SLEEP = 1, BLOCK = 2, THROW = 3, GUARD = 4, STRAY = 5;
    static final int NOTE = 6, JOIN = 7, LOOK = 8, KEEP = 9, END = 10, MARK = 11;

    static final String ILLEGAL = "IllegalArgumentException";
    static final String OUTSIDE = "IndexOutOfBoundsException";

    interface Call {
        int answer();
    }

    private static int compared = 0;
    private static int wrong = 0;

    private Due() {
    }

    static void same(String call, Call made, int want) {
        same(call, outcome(made), String.valueOf(want));
    }

    static void thrown(String call, Call made, String want) {
        same(call, outcome(made), want);
    }

    static void same(String call, String got, String want) {
        compared++;
        if (!got.equals(want)) {
            wrong++;
            System.out.println(call + " answered " + got + ", due is " + want);
        }
    }

    static String outcome(Call made) {
        try {
            return String.valueOf(made.answer());
        } catch (RuntimeException e) {
            return e.getClass().getSimpleName();
        }
    }

    /** Gives a program its actions, written as op, a, op, a, .. */
    static void program(TimeoutYard yard, int p, int... opsAndArguments) {
        for (int i = 0; i < opsAndArguments.length; i += 2) {
            yard.action(p, opsAndArguments[i], opsAndArguments[i + 1]);
        }
    }

    /** What look answers for a test, from what 0 on: as many as are due. */
    static void looks(String run, TimeoutYard yard, int t, int... due) {
        for (int what = 0; what < due.length; what++) {
            int asked = what;
            same(run + ": look(" + t + ", " + what + ")", () -> yard.look(t, asked), due[what]);
        }
    }

    static void notes(String run, TimeoutYard yard, int... due) {
        same(run + ": count(1)", () -> yard.count(1), due.length);
        for (int k = 0; k < due.length; k++) {
            int asked = k;
            same(run + ": note(" + k + ")", () -> yard.note(asked), due[k]);
        }
        thrown(run + ": note(" + due.length + ")", () -> yard.note(due.length), OUTSIDE);
    }

    static void warnings(String run, TimeoutYard yard, int... due) {
        same(run + ": count(2)", () -> yard.count(2), due.length);
        for (int k = 0; k < due.length; k++) {
            int asked = k;
            same(run + ": warning(" + k + ")", () -> yard.warning(asked), due[k]);
        }
        thrown(run + ": warning(" + due.length + ")", () -> yard.warning(due.length), OUTSIDE);
    }

    static void finish() {
        System.out.println(compared + " answers compared, " + wrong + " not as due");
        if (wrong != 0 || compared == 0) {
            System.exit(1);
        }
    }
}
