import java.util.Random;

/** Whatever is called: only the exceptions of the face come, and the same calls answer the same. */
public final class AnyCallsTest {
    private static final int CALLS = 512;
    private static final int[] EDGES = {Integer.MIN_VALUE, -2, -1, 0, 1, 2, 8, 9, 10, 11, 12, 15, 16, 20, 21, 50, 51, 99,
        100, Integer.MAX_VALUE};

    public static void main(String[] args) {
        for (int seed = 0; seed < 200; seed++) {
            Random random = new Random(seed);
            TimeoutYard yard = new TimeoutYard();
            TimeoutYard twin = new TimeoutYard();
            for (int i = 0; i < CALLS; i++) {
                int[] call = {random.nextInt(8), any(random), any(random), any(random), any(random)};
                String answer = Due.outcome(() -> make(yard, call));
                String name = "seed " + seed + ", call " + i + " of kind " + call[0];
                Due.same(name + " on a twin", Due.outcome(() -> make(twin, call)), answer);
                Due.same(name + " answers or throws as the face says", isAllowed(call[0], answer) ? "so" : answer, "so");
            }
        }
        Due.finish();
    }

    private static int any(Random random) {
        return random.nextInt(4) == 0 ? EDGES[random.nextInt(EDGES.length)] : random.nextInt(12);
    }

    private static int make(TimeoutYard yard, int[] call) {
        switch (call[0]) {
            case 0: return yard.action(call[1], call[2], call[3]);
            case 1: return yard.test(call[1], call[2], call[3], call[4]);
            case 2: return yard.workers(call[1]);
            case 3: return yard.run();
            case 4: return yard.look(call[1], call[2]);
            case 5: return yard.note(call[1]);
            case 6: return yard.warning(call[1]);
            default: return yard.count(call[1]);
        }
    }

    private static boolean isAllowed(int kind, String answer) {
        if (!answer.endsWith("Exception")) {
            return true;
        }
        boolean mayBeIllegal = kind <= 2 || kind == 4 || kind == 7;
        boolean mayBeOutside = kind <= 1 || kind == 5 || kind == 6;
        return mayBeIllegal && answer.equals(Due.ILLEGAL) || mayBeOutside && answer.equals(Due.OUTSIDE);
    }
}
