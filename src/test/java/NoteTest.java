/** Promise 7: note: which are kept, what they say, and where there is none. */
public final class NoteTest {
    public static void main(String[] args) {
        testAndNote();
        lowestAndHighest();
        firstTwelveAreKept();
        notesOfSeveralTests();
        thereIsNone();
        Due.finish();
    }

    private static void testAndNote() {
        TimeoutYard yard = new TimeoutYard();
        Due.program(yard, 0, Due.NOTE, 0, Due.LOOK, 0, Due.STRAY, 1, Due.JOIN, 0);
        Due.program(yard, 1, Due.NOTE, 99);
        for (int t = 0; t < 12; t++) {
            yard.test(t < 10 ? 2 : 0, 0, 0, 0);
        }
        yard.run();
        Due.notes("test and note", yard, 1000, 1000, 1099, 1100, 1100, 1199);
    }

    private static void lowestAndHighest() {
        TimeoutYard yard = Due.yardWith(0, Due.NOTE, 0, Due.NOTE, 99);
        yard.test(0, 0, 0, 0);
        yard.run();
        Due.notes("lowest and highest", yard, 0, 99, 100, 199);
    }

    /** Makes a yard whose run has so many notes: 1, 2, 3 and on. */
    private static TimeoutYard withNotes(int many) {
        TimeoutYard yard = new TimeoutYard();
        for (int i = 1; i <= many; i++) {
            yard.action((i - 1) / 9, Due.NOTE, i);
            if (i % 9 == 0) {
                yard.action((i - 1) / 9, Due.STRAY, i / 9);
            }
        }
        Due.program(yard, 8, Due.STRAY, 0, Due.WORK, 20);
        yard.test(8, 0, 0, 0);
        yard.run();
        return yard;
    }

    private static void firstTwelveAreKept() {
        for (int many : new int[] {0, 1, 11, 12, 13, 24, 30}) {
            TimeoutYard yard = withNotes(many);
            for (int k = 0; k <= 30; k++) {
                int asked = k;
                String due = k < many && k < 12 ? String.valueOf(k + 1) : Due.OUTSIDE;
                Due.same(many + " notes: note(" + k + ")", Due.outcome(() -> yard.note(asked)), due);
            }
            Due.same(many + " notes, kept or not: count(1)", () -> yard.count(1), many);
        }
    }

    private static void notesOfSeveralTests() {
        TimeoutYard yard = new TimeoutYard();
        for (int i = 0; i < 10; i++) {
            yard.action(0, Due.NOTE, i);
        }
        yard.test(0, 0, 0, 0);
        yard.test(0, 0, 0, 0);
        yard.run();
        for (int k = 0; k < 12; k++) {
            int asked = k;
            Due.same("note(" + k + ")", () -> yard.note(asked), k < 10 ? k : 90 + k);
        }
        Due.thrown("note(12)", () -> yard.note(12), Due.OUTSIDE);
    }

    private static void thereIsNone() {
        Due.refused("before the first run", TimeoutYard::new, yard -> yard.note(0), Due.OUTSIDE);
        for (int k : Due.outside(0, 11)) {
            Due.refused("all are kept that can be: note(" + k + ")", Due::inUse, yard -> yard.note(k), Due.OUTSIDE);
        }
        for (int k : Due.outside(0, 2)) {
            Due.refused("three notes: note(" + k + ")", () -> withNotes(3), yard -> yard.note(k), Due.OUTSIDE);
        }
        TimeoutYard yard = new TimeoutYard();
        Due.program(yard, 0, Due.NOTE, 5, Due.BLOCK, 0);
        yard.run();
        Due.thrown("a program that no test has", () -> yard.note(0), Due.OUTSIDE);
        yard.test(0, 1, 0, 0);
        Due.thrown("a test that was not run", () -> yard.note(0), Due.OUTSIDE);
        yard.run();
        Due.notes("run", yard, 5);
        yard.run();
        Due.notes("those of the run before are forgotten", yard, 5);
    }
}
