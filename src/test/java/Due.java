import java.util.function.Supplier;

/** Compares answers with those that are due, and ends a test with exit code 1 if one differed. */
final class Due {
    static final int WORK = 0, SLEEP = 1, BLOCK = 2, THROW = 3, GUARD = 4, STRAY = 5;
    static final int NOTE = 6, JOIN = 7, LOOK = 8, KEEP = 9, END = 10, MARK = 11;

    static final String ILLEGAL = "IllegalArgumentException";
    static final String OUTSIDE = "IndexOutOfBoundsException";

    interface Call {
        int answer();
    }

    interface CallOn {
        int answer(TimeoutYard yard);
    }

    private static int compared = 0;
    private static int wrong = 0;

    private Due() {
    }

    static void same(String call, Call made, int want) {
        same(call, outcome(made), String.valueOf(want));
    }

    static void thrown(String call, Call made, String want) {
        same(call, outcome(made), want);
    }

    static void same(String call, String got, String want) {
        compared++;
        if (!got.equals(want)) {
            wrong++;
            System.out.println(call + " answered " + got + ", due is " + want);
        }
    }

    static String outcome(Call made) {
        try {
            return String.valueOf(made.answer());
        } catch (RuntimeException e) {
            return e.getClass().getSimpleName();
        }
    }

    /** Makes a call that is refused on one of two yards: all that is called behind it answers the same on both. */
    static void refused(String call, Supplier<TimeoutYard> maker, CallOn made, String want) {
        TimeoutYard yard = maker.get();
        TimeoutYard twin = maker.get();
        thrown(call, () -> made.answer(yard), want);
        same(call + ": what is asked behind it", asked(yard), asked(twin));
        same(call + ": what is done behind it", done(yard), done(twin));
    }

    /** All that can be asked without a change. */
    static String asked(TimeoutYard yard) {
        StringBuilder answers = new StringBuilder();
        for (int what = 0; what <= 6; what++) {
            int asked = what;
            answers.append(" count ").append(outcome(() -> yard.count(asked)));
        }
        int tests = yard.count(0);
        for (int i = 0; i < 7 * tests; i++) {
            int asked = i;
            answers.append(" look ").append(outcome(() -> yard.look(asked / 7, asked % 7)));
        }
        for (int k = 0; k <= 12; k++) {
            int asked = k;
            answers.append(" note ").append(outcome(() -> yard.note(asked)));
        }
        for (int k = 0; k <= 8; k++) {
            int asked = k;
            answers.append(" warning ").append(outcome(() -> yard.warning(asked)));
        }
        return answers.toString();
    }

    /** A run of the yard as it is, and then what the calls tell that change it. */
    private static String done(TimeoutYard yard) {
        StringBuilder answers = new StringBuilder();
        answers.append("run ").append(yard.run()).append(asked(yard));
        answers.append(" workers ").append(yard.workers(1));
        for (int p = 0; p < 10; p++) {
            int asked = p;
            answers.append(" action ").append(outcome(() -> yard.action(asked, THROW, 5)));
        }
        answers.append(" test ").append(outcome(() -> yard.test(0, 0, 0, 0)));
        return answers.append(" run ").append(yard.run()).append(asked(yard)).toString();
    }

    /** What is too small and too large, by little, by much, and so that it would fit if it were cut to 8 or 16 bits. */
    static int[] outside(int low, int high) {
        return new int[] {low - 1, high + 1, low - 256, low + 256, high + 65536, Integer.MIN_VALUE, Integer.MAX_VALUE};
    }

    /** A yard behind a run: two workers, tests of each kind of verdict, an empty program 4, a full program 9. */
    static TimeoutYard inUse() {
        TimeoutYard yard = new TimeoutYard();
        program(yard, 0, NOTE, 1, STRAY, 1, LOOK, 0);
        program(yard, 1, WORK, 1, THROW, 3);
        program(yard, 2, SLEEP, 9);
        program(yard, 3, THROW, 7);
        for (int i = 0; i < 10; i++) {
            yard.action(9, NOTE, 90 + i);
        }
        yard.test(0, 0, 0, 0);
        yard.test(2, 2, 1, 0);
        yard.test(3, 0, 0, 1);
        yard.test(9, 0, 0, 0);
        yard.workers(2);
        yard.run();
        return yard;
    }

    /** The same with twelve tests, eight of which came behind the run. */
    static TimeoutYard full() {
        TimeoutYard yard = inUse();
        for (int t = 4; t < 12; t++) {
            yard.test(4, 0, 0, 0);
        }
        return yard;
    }

    /** Gives a program its actions, written as op, a, op, a, .. */
    static void program(TimeoutYard yard, int p, int... opsAndArguments) {
        for (int i = 0; i < opsAndArguments.length; i += 2) {
            yard.action(p, opsAndArguments[i], opsAndArguments[i + 1]);
        }
    }

    /** One test with program 0 and a timeout. */
    static TimeoutYard yardWith(int timeout, int... opsAndArguments) {
        TimeoutYard yard = new TimeoutYard();
        program(yard, 0, opsAndArguments);
        yard.test(0, timeout, 0, 0);
        return yard;
    }

    /** What look answers for a test, from what 0 on: as many as are due. */
    static void looks(String run, TimeoutYard yard, int t, int... due) {
        for (int what = 0; what < due.length; what++) {
            int asked = what;
            same(run + ": look(" + t + ", " + what + ")", () -> yard.look(t, asked), due[what]);
        }
    }

    /** What count answers, from what 0 on: as many as are due. */
    static void counts(String run, TimeoutYard yard, int... due) {
        for (int what = 0; what < due.length; what++) {
            int asked = what;
            same(run + ": count(" + what + ")", () -> yard.count(asked), due[what]);
        }
    }

    static void notes(String run, TimeoutYard yard, int... due) {
        same(run + ": count(1)", () -> yard.count(1), due.length);
        for (int k = 0; k < due.length; k++) {
            int asked = k;
            same(run + ": note(" + k + ")", () -> yard.note(asked), due[k]);
        }
        thrown(run + ": note(" + due.length + ")", () -> yard.note(due.length), OUTSIDE);
    }

    static void warnings(String run, TimeoutYard yard, int... due) {
        same(run + ": count(2)", () -> yard.count(2), due.length);
        for (int k = 0; k < due.length; k++) {
            int asked = k;
            same(run + ": warning(" + k + ")", () -> yard.warning(asked), due[k]);
        }
        thrown(run + ": warning(" + due.length + ")", () -> yard.warning(due.length), OUTSIDE);
    }

    static void finish() {
        System.out.println(compared + " answers compared, " + wrong + " not as due");
        if (wrong != 0 || compared == 0) {
            System.exit(1);
        }
    }
}
