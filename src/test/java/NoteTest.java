/** Promise 7: note: which are kept, what they say, and wrong inputs. */
public final class NoteTest {
    public static void main(String[] args) {
        testAndNote();
        firstTwelve();
        Due.finish();
    }

    private static void testAndNote() {
        TimeoutYard yard = new TimeoutYard();
        Due.program(yard, 0, Due.NOTE, 0, Due.LOOK, 0, Due.STRAY, 1, Due.JOIN, 0);
        Due.program(yard, 1, Due.NOTE, 99);
        for (int t = 0; t < 12; t++) {
            yard.test(t < 10 ? 2 : 0, 0, 0, 0);
        }
        yard.run();
        Due.notes("test and note", yard, 1000, 1000, 1099, 1100, 1100, 1199);
        for (int k : new int[] {-1, 6, 12, Integer.MAX_VALUE, Integer.MIN_VALUE}) {
            Due.thrown("note(" + k + ")", () -> yard.note(k), Due.OUTSIDE);
        }
    }

    private static void firstTwelve() {
        TimeoutYard yard = new TimeoutYard();
        for (int i = 0; i < 10; i++) {
            yard.action(0, Due.NOTE, i);
        }
        yard.test(0, 0, 0, 0);
        yard.test(0, 0, 0, 0);
        yard.run();
        for (int k = 0; k < 12; k++) {
            int asked = k;
            Due.same("note(" + k + ")", () -> yard.note(asked), k < 10 ? k : 90 + k);
        }
        for (int k : new int[] {12, 13, 19, 20}) {
            Due.thrown("note(" + k + ")", () -> yard.note(k), Due.OUTSIDE);
        }
        Due.same("count(1): all notes, kept or not", () -> yard.count(1), 20);
    }
}
