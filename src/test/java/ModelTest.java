import java.util.ArrayDeque;
import java.util.ArrayList;
import java.util.Deque;
import java.util.List;
import java.util.Random;

/**
 * Compares the class with a second reading of the document, made in another way, on many yards of a
 * fixed seed: guards are a stack that each thread carries, locks are counted, workers are objects.
 */
public final class ModelTest {
    private static final int YARDS = 20000;

    static final class Test {
        int number, program, timeout, reading, writing;
        int verdict = 0, failure = -1, begun = -1, decided = -1, worker = -1, abandoned = 0, threads = 0;
        Strand first = null;
        List<Integer> deaths = new ArrayList<>();

        Test again() {
            Test t = new Test();
            t.number = number;
            t.program = program;
            t.timeout = timeout;
            t.reading = reading;
            t.writing = writing;
            return t;
        }
    }

    static final class Strand {
        Test test;
        List<int[]> actions;
        List<Strand> started = new ArrayList<>();
        Deque<Integer> guards = new ArrayDeque<>();
        int at = 0, since = -1;
        boolean marked = false, keeps = false, over = false;
    }

    static final class Model {
        List<List<int[]>> programs = new ArrayList<>();
        List<Test> tests = new ArrayList<>();
        int workers = 1;
        List<Integer> notes = new ArrayList<>(), warnings = new ArrayList<>();
        List<Strand> strands = new ArrayList<>();
        int[] readers = new int[4];
        boolean[] written = new boolean[4];
        int time = 0, left = 0, most = 0, ran = 0;

        Model() {
            for (int p = 0; p < 10; p++) {
                programs.add(new ArrayList<>());
            }
        }

        int run() {
            List<Test> fresh = new ArrayList<>();
            for (Test t : tests) {
                fresh.add(t.again());
            }
            tests = fresh;
            ran = tests.size();
            notes.clear();
            warnings.clear();
            strands.clear();
            readers = new int[4];
            written = new boolean[4];
            left = 0;
            most = 0;
            Test[] at = new Test[workers];
            for (time = 0; time != 150; time++) {
                for (Test t : tests) {
                    if (t.begun >= 0 && t.verdict == 0 && t.timeout > 0 && time - t.begun >= t.timeout) {
                        decide(t, 3);
                        t.first.marked = true;
                    }
                }
                int running = fill(at);
                most = running > most ? running : most;
                boolean done = tests.stream().allMatch(t -> t.verdict != 0);
                for (Test t : at) {
                    done &= t == null;
                }
                if (done) {
                    break;
                }
                for (Strand s : new ArrayList<>(strands)) {
                    if (!s.over) {
                        turn(s);
                    }
                }
            }
            for (Test t : tests) {
                if (t.verdict == 0) {
                    t.verdict = 4;
                    t.decided = time;
                }
            }
            left = (int) strands.stream().filter(s -> !s.over).count();
            return time;
        }

        int fill(Test[] at) {
            for (int w = 0; w < at.length; w++) {
                Test t = at[w];
                if (t != null && t.first.over) {
                    at[w] = null;
                } else if (t != null && t.verdict == 3 && t.decided + 3 <= time) {
                    t.abandoned = 1;
                    at[w] = null;
                }
            }
            // Literally: as long as one is free, the first test that can begin does so.
            while (true) {
                int w = 0;
                while (w < at.length && at[w] != null) {
                    w++;
                }
                Test next = tests.stream().filter(t -> t.begun < 0 && free(t)).findFirst().orElse(null);
                if (w == at.length || next == null) {
                    break;
                }
                at[w] = next;
                next.worker = w;
                next.begun = time;
                take(next, 1);
                next.first = start(next, next.program);
            }
            return (int) tests.stream().filter(t -> t.begun >= 0 && t.verdict == 0).count();
        }

        boolean free(Test t) {
            for (int lock = 0; lock < 4; lock++) {
                boolean writes = (t.writing >> lock & 1) == 1;
                boolean reads = !writes && (t.reading >> lock & 1) == 1;
                if (writes && (written[lock] || readers[lock] > 0) || reads && written[lock]) {
                    return false;
                }
            }
            return true;
        }

        void take(Test t, int by) {
            for (int lock = 0; lock < 4; lock++) {
                if ((t.writing >> lock & 1) == 1) {
                    written[lock] = by == 1;
                } else if ((t.reading >> lock & 1) == 1) {
                    readers[lock] += by;
                }
            }
        }

        void decide(Test t, int verdict) {
            t.verdict = verdict;
            t.decided = time;
            take(t, -1);
        }

        Strand start(Test t, int program) {
            Strand s = new Strand();
            s.test = t;
            s.actions = programs.get(program);
            strands.add(s);
            t.threads++;
            return s;
        }

        void turn(Strand s) {
            while (!s.over) {
                while (!s.guards.isEmpty() && s.guards.peek() <= s.at) {
                    s.guards.pop();
                }
                if (s.at >= s.actions.size()) {
                    finish(s, -1);
                    return;
                }
                int op = s.actions.get(s.at)[0];
                int a = s.actions.get(s.at)[1];
                int before = s.since;
                if (before < 0) {
                    s.since = time;
                }
                boolean waits = op == 1 || op == 2 || op == 7;
                if (waits && s.marked) {
                    s.marked = false;
                    s.since = -1;
                    if (s.guards.isEmpty()) {
                        finish(s, 100);
                    } else {
                        s.at = s.guards.pop();
                    }
                    continue;
                }
                if ((op == 0 || op == 1) && time - s.since < a || op == 2
                        || op == 7 && s.started.stream().anyMatch(c -> !c.over)) {
                    return;
                }
                s.since = -1;
                s.at++;
                act(s, op, a);
            }
        }

        void act(Strand s, int op, int a) {
            if (op == 3) {
                finish(s, a);
            } else if (op == 4) {
                s.guards.push(s.guards.isEmpty() ? s.at + a : Math.min(s.at + a, s.guards.peek()));
            } else if (op == 5 && strands.size() < 40) {
                s.started.add(start(s.test, a));
            } else if (op == 6) {
                notes.add(s.test.number * 100 + a);
            } else if (op == 8) {
                notes.add(s.test.number * 100 + (s.marked ? 1 : 0));
                s.marked = false;
            } else if (op == 9) {
                s.keeps = true;
            } else if (op == 10) {
                finish(s, -1);
            } else if (op == 11) {
                for (Strand c : s.started) {
                    c.marked |= !c.over;
                }
            }
        }

        void finish(Strand s, int death) {
            s.over = true;
            Test t = s.test;
            if (t.verdict != 0) {
                if (death >= 0 && !s.keeps) {
                    warnings.add(t.number * 1000 + death);
                }
            } else if (s == t.first) {
                t.failure = death >= 0 ? death : t.deaths.isEmpty() ? -1 : t.deaths.get(0);
                decide(t, t.failure >= 0 ? 2 : 1);
            } else if (death >= 0 && !s.keeps) {
                t.deaths.add(death);
            }
        }

        int[] looks(int t) {
            Test x = tests.get(t);
            return new int[] {x.verdict, x.failure, x.begun, x.decided, x.worker, x.abandoned, x.threads};
        }

        int[] counts() {
            boolean passed = tests.subList(0, ran).stream().allMatch(t -> t.verdict == 1);
            return new int[] {tests.size(), notes.size(), warnings.size(), left, strands.size(), most, passed ? 0 : 1};
        }
    }

    public static void main(String[] args) {
        Random random = new Random(20261115L);
        int[] verdicts = new int[5];
        for (int i = 0; i < YARDS; i++) {
            one("yard " + i, random, verdicts);
        }
        for (int verdict = 1; verdict < 5; verdict++) {
            int had = verdicts[verdict];
            Due.same("verdict " + verdict + " came often", () -> had > 500 ? 1 : 0, 1);
        }
        Due.finish();
    }

    private static void one(String name, Random random, int[] verdicts) {
        TimeoutYard yard = new TimeoutYard();
        Model model = new Model();
        // Some yards run short, others are full of waits.
        int waits = random.nextInt(3);
        // Few programs are long ones that start one another: their threads overtake one another.
        int programs = random.nextBoolean() ? 10 : 2 + random.nextInt(4);
        // Two runs with all that is asked about them stay within the 512 calls of an object.
        int runs = 1 + random.nextInt(2);
        for (int r = 0; r < runs; r++) {
            int actions = 5 + random.nextInt(40);
            for (int i = 0; i < actions; i++) {
                addAction(yard, model, random, waits, programs);
            }
            int tests = random.nextInt(7);
            for (int i = 0; i < tests; i++) {
                addTest(yard, model, random, programs);
            }
            int n = 1 + random.nextInt(4);
            yard.workers(n);
            model.workers = n;
            compare(name + " before run " + r, yard, model);
            Due.same(name + ": run()", () -> yard.run(), model.run());
            compare(name + " behind run " + r, yard, model);
            for (Test t : model.tests) {
                verdicts[t.verdict]++;
            }
        }
    }

    private static void addAction(TimeoutYard yard, Model model, Random random, int waits, int programs) {
        int p = random.nextInt(programs);
        int op = random.nextInt(3) < waits ? new int[] {0, 1, 2, 4, 5, 7, 8, 11}[random.nextInt(8)] : random.nextInt(12);
        int a = op <= 2 ? 1 + random.nextInt(random.nextBoolean() ? 20 : 4) : op == 3 || op == 6 ? random.nextInt(100)
                : op == 5 ? random.nextInt(programs) : random.nextInt(10);
        if (model.programs.get(p).size() < 10) {
            model.programs.get(p).add(new int[] {op, a});
            Due.same("action", () -> yard.action(p, op, a), model.programs.get(p).size());
        }
    }

    private static void addTest(TimeoutYard yard, Model model, Random random, int programs) {
        if (model.tests.size() == 12) {
            return;
        }
        Test t = new Test();
        t.number = model.tests.size();
        t.program = random.nextInt(programs);
        t.timeout = random.nextInt(3) == 0 ? 0 : random.nextInt(random.nextBoolean() ? 51 : 8);
        t.reading = random.nextInt(16) & random.nextInt(16);
        t.writing = random.nextInt(16) & random.nextInt(16) & random.nextInt(16);
        model.tests.add(t);
        Due.same("test", () -> yard.test(t.program, t.timeout, t.reading, t.writing), t.number);
    }

    private static void compare(String name, TimeoutYard yard, Model model) {
        for (int t = 0; t < model.tests.size(); t++) {
            Due.looks(name, yard, t, model.looks(t));
        }
        int[] counts = model.counts();
        for (int what = 0; what < counts.length; what++) {
            int asked = what;
            Due.same(name + ": count(" + what + ")", () -> yard.count(asked), counts[what]);
        }
        for (int k = 0; k < 13; k++) {
            int asked = k;
            Due.same(name + ": note(" + k + ")", Due.outcome(() -> yard.note(asked)), kept(model.notes, k, 12));
            Due.same(name + ": warning(" + k + ")", Due.outcome(() -> yard.warning(asked)), kept(model.warnings, k, 8));
        }
    }

    private static String kept(List<Integer> all, int k, int limit) {
        return k < limit && k < all.size() ? String.valueOf(all.get(k)) : Due.OUTSIDE;
    }
}
