/**
 * Trials that are run side by side by workers, under the eye of a watchdog.
 *
 * <p>The document's TEST is called a trial here, and its THREAD a strand, so that neither is taken
 * for a method of the face or for the thread of the Java library.
 */
public final class TimeoutYard {
    public static final int NONE = 0, PASSED = 1, FAILED = 2, OVERRUN = 3, UNTRIED = 4;

    private static final int WORK = 0, SLEEP = 1, BLOCK = 2, THROW = 3, GUARD = 4, STRAY = 5;
    private static final int NOTE = 6, JOIN = 7, LOOK = 8, KEEP = 9, END = 10, MARK = 11;

    private static final int PROGRAM_LIMIT = 10;
    private static final int ACTION_LIMIT = 10;
    private static final int TRIAL_LIMIT = 12;
    private static final int WORKER_LIMIT = 4;
    private static final int STRAY_LIMIT = 40;
    /** The limit holds for strays alone: every trial still has its first strand. */
    private static final int STRAND_LIMIT = STRAY_LIMIT + TRIAL_LIMIT;
    private static final int NOTE_LIMIT = 12;
    private static final int WARNING_LIMIT = 8;

    private static final int LONGEST_WAIT = 20;
    private static final int LONGEST_TIMEOUT = 50;
    private static final int ALL_LOCKS = 15;
    private static final int HIGHEST_NUMBER = 99;
    private static final int INTERRUPTED = 100;
    private static final int PATIENCE = 3;
    private static final int LAST_TIME = 150;

    /** Stands where there is no time, worker, strand, guard or death. */
    private static final int NOTHING = -1;

    private final Course course;
    private int trialCount;
    private int workerCount;

    public TimeoutYard() {
        course = new Course();
        trialCount = 0;
        workerCount = 1;
    }

    public int action(int p, int op, int a) throws IllegalArgumentException, IndexOutOfBoundsException {
        if (!isWithin(p, 0, PROGRAM_LIMIT - 1) || !isAction(op, a)) {
            throw new IllegalArgumentException();
        }
        Program program = course.programs[p];
        if (program.size >= ACTION_LIMIT) {
            throw new IndexOutOfBoundsException();
        }
        program.add(op, a);
        return program.size;
    }

    public int test(int p, int timeout, int reading, int writing)
            throws IllegalArgumentException, IndexOutOfBoundsException {
        if (!isWithin(p, 0, PROGRAM_LIMIT - 1) || !isWithin(timeout, 0, LONGEST_TIMEOUT)
                || !isWithin(reading, 0, ALL_LOCKS) || !isWithin(writing, 0, ALL_LOCKS)) {
            throw new IllegalArgumentException();
        }
        if (trialCount >= TRIAL_LIMIT) {
            throw new IndexOutOfBoundsException();
        }
        course.trials[trialCount].define(p, timeout, reading, writing);
        trialCount++;
        return trialCount - 1;
    }

    public int workers(int n) throws IllegalArgumentException {
        if (!isWithin(n, 1, WORKER_LIMIT)) {
            throw new IllegalArgumentException();
        }
        int before = workerCount;
        workerCount = n;
        return before;
    }

    public int run() {
        return course.perform(trialCount, workerCount);
    }

    public int look(int t, int what) throws IllegalArgumentException {
        if (!isWithin(t, 0, trialCount - 1)) {
            throw new IllegalArgumentException();
        }
        Trial trial = course.trials[t];
        switch (what) {
            case 0: return trial.verdict;
            case 1: return trial.failure;
            case 2: return trial.beginning;
            case 3: return trial.verdictTime;
            case 4: return trial.worker;
            case 5: return trial.isAbandoned ? 1 : 0;
            case 6: return trial.strandCount;
            default: throw new IllegalArgumentException();
        }
    }

    public int note(int k) throws IndexOutOfBoundsException {
        if (!course.notes.keeps(k)) {
            throw new IndexOutOfBoundsException();
        }
        return course.notes.kept[k];
    }

    public int warning(int k) throws IndexOutOfBoundsException {
        if (!course.warnings.keeps(k)) {
            throw new IndexOutOfBoundsException();
        }
        return course.warnings.kept[k];
    }

    public int count(int what) throws IllegalArgumentException {
        switch (what) {
            case 0: return trialCount;
            case 1: return course.notes.size;
            case 2: return course.warnings.size;
            case 3: return course.leftCount;
            case 4: return course.strandCount;
            case 5: return course.mostAtOnce;
            case 6: return course.allPassed() ? 0 : 1;
            default: throw new IllegalArgumentException();
        }
    }

    private static boolean isWithin(int x, int low, int high) {
        return low <= x && x <= high;
    }

    private static boolean isAction(int op, int a) {
        switch (op) {
            case WORK:
            case SLEEP:
                return isWithin(a, 1, LONGEST_WAIT);
            case THROW:
            case NOTE:
                return isWithin(a, 0, HIGHEST_NUMBER);
            case GUARD:
                return isWithin(a, 0, ACTION_LIMIT - 1);
            case STRAY:
                return isWithin(a, 0, PROGRAM_LIMIT - 1);
            default:
                return isWithin(op, WORK, MARK);
        }
    }

    private static final class Program {
        final int[] ops = new int[ACTION_LIMIT];
        final int[] arguments = new int[ACTION_LIMIT];
        /** The place behind the guard that begins here; 0 where none begins. */
        final int[] guardEnds = new int[ACTION_LIMIT];
        int size;

        void add(int op, int argument) {
            ops[size] = op;
            arguments[size] = argument;
            guardEnds[size] = op == GUARD ? endOfGuard(size, argument) : 0;
            size++;
        }

        private int endOfGuard(int at, int length) {
            int end = at + 1 + length;
            int endAround = endOfGuardAround(at);
            return endAround == NOTHING ? end : Math.min(end, endAround);
        }

        /** No guard reaches beyond the one around it, so the nearest that reaches here is the innermost. */
        int endOfGuardAround(int at) {
            for (int i = at - 1; i >= 0; i--) {
                if (guardEnds[i] > at) {
                    return guardEnds[i];
                }
            }
            return NOTHING;
        }
    }

    private static final class Trial {
        int program;
        int timeout;
        int reading;
        int writing;

        int verdict;
        int failure;
        int beginning;
        int verdictTime;
        int worker;
        boolean isAbandoned;
        int strandCount;
        int firstStrand;
        int strayDeath;

        Trial() {
            forgetRun();
        }

        void define(int itsProgram, int itsTimeout, int itsReading, int itsWriting) {
            program = itsProgram;
            timeout = itsTimeout;
            reading = itsReading;
            writing = itsWriting;
        }

        void forgetRun() {
            verdict = NONE;
            failure = NOTHING;
            beginning = NOTHING;
            verdictTime = NOTHING;
            worker = NOTHING;
            isAbandoned = false;
            strandCount = 0;
            firstStrand = NOTHING;
            strayDeath = NOTHING;
        }

        boolean isRunning() {
            return beginning != NOTHING && verdict == NONE;
        }

        boolean overrunsAt(int time) {
            return isRunning() && timeout != 0 && time >= beginning + timeout;
        }

        /** A lock that is in both sets needs no care: the writing set alone already shuts out all others. */
        boolean hindersLocksOf(Trial other) {
            return (writing & (other.reading | other.writing)) != 0 || (reading & other.writing) != 0;
        }

        void decide(int itsVerdict, int time) {
            verdict = itsVerdict;
            verdictTime = time;
        }

        void decideByDeath(int firstDeath, int time) {
            failure = firstDeath != NOTHING ? firstDeath : strayDeath;
            decide(failure != NOTHING ? FAILED : PASSED, time);
        }
    }

    private static final class Strand {
        int program;
        int trial;
        int starter;
        int at;
        boolean isWaiting;
        int wakeTime;
        boolean isMarked;
        boolean isSilent;
        boolean isOver;
        int death;

        void start(int itsProgram, int itsTrial, int itsStarter) {
            program = itsProgram;
            trial = itsTrial;
            starter = itsStarter;
            at = 0;
            isWaiting = false;
            wakeTime = 0;
            isMarked = false;
            isSilent = false;
            isOver = false;
            death = NOTHING;
        }

        void end(int itsDeath) {
            isOver = true;
            death = itsDeath;
        }

        boolean takeMark() {
            boolean wasMarked = isMarked;
            isMarked = false;
            return wasMarked;
        }
    }

    /** Counts all that it is told, and keeps the first of it. */
    private static final class Log {
        final int[] kept;
        int size;

        Log(int limit) {
            kept = new int[limit];
        }

        void add(int entry) {
            if (size < kept.length) {
                kept[size] = entry;
            }
            size++;
        }

        boolean keeps(int k) {
            return k >= 0 && k < size && k < kept.length;
        }
    }

    /** What is run, and the latest run of it. Its rows are made once and used again by every run. */
    private static final class Course {
        final Program[] programs = new Program[PROGRAM_LIMIT];
        final Trial[] trials = new Trial[TRIAL_LIMIT];
        final Strand[] strands = new Strand[STRAND_LIMIT];
        /** The trial that each worker has. */
        final int[] trialOfWorker = new int[WORKER_LIMIT];
        final Log notes = new Log(NOTE_LIMIT);
        final Log warnings = new Log(WARNING_LIMIT);
        /** How many trials the run has: those that come behind it are not its own. */
        int trialCount;
        int workerCount;
        int strandCount;
        int leftCount;
        int mostAtOnce;
        int time;

        Course() {
            for (int i = 0; i < PROGRAM_LIMIT; i++) {
                programs[i] = new Program();
            }
            for (int i = 0; i < TRIAL_LIMIT; i++) {
                trials[i] = new Trial();
            }
            for (int i = 0; i < STRAND_LIMIT; i++) {
                strands[i] = new Strand();
            }
        }

        int perform(int trialsThere, int workersThere) {
            trialCount = trialsThere;
            workerCount = workersThere;
            forgetRun();
            for (int tick = 0; tick < LAST_TIME; tick++) {
                stopOverruns();
                releaseWorkers();
                beginTrials();
                mostAtOnce = Math.max(mostAtOnce, countRunning());
                if (isFinished()) {
                    break;
                }
                takeTurns();
                time++;
            }
            leaveRest();
            return time;
        }

        boolean allPassed() {
            for (int i = 0; i < trialCount; i++) {
                if (trials[i].verdict != PASSED) {
                    return false;
                }
            }
            return true;
        }

        private void forgetRun() {
            for (int i = 0; i < trialCount; i++) {
                trials[i].forgetRun();
            }
            for (int i = 0; i < WORKER_LIMIT; i++) {
                trialOfWorker[i] = NOTHING;
            }
            notes.size = 0;
            warnings.size = 0;
            strandCount = 0;
            leftCount = 0;
            mostAtOnce = 0;
            time = 0;
        }

        private void stopOverruns() {
            for (int i = 0; i < trialCount; i++) {
                Trial trial = trials[i];
                if (trial.overrunsAt(time)) {
                    trial.decide(OVERRUN, time);
                    strands[trial.firstStrand].isMarked = true;
                }
            }
        }

        private void releaseWorkers() {
            for (int i = 0; i < workerCount; i++) {
                if (trialOfWorker[i] != NOTHING) {
                    releaseIfDone(i, trials[trialOfWorker[i]]);
                }
            }
        }

        private void releaseIfDone(int worker, Trial trial) {
            if (strands[trial.firstStrand].isOver) {
                trialOfWorker[worker] = NOTHING;
            } else if (trial.verdict == OVERRUN && time - trial.verdictTime >= PATIENCE) {
                trial.isAbandoned = true;
                trialOfWorker[worker] = NOTHING;
            }
        }

        /** Locks are only taken meanwhile, so a trial that was passed over need not be asked again. */
        private void beginTrials() {
            for (int i = 0; i < trialCount; i++) {
                int worker = lowestFreeWorker();
                if (worker != NOTHING && trials[i].beginning == NOTHING && canHaveLocks(trials[i])) {
                    begin(i, worker);
                }
            }
        }

        private int lowestFreeWorker() {
            for (int i = 0; i < workerCount; i++) {
                if (trialOfWorker[i] == NOTHING) {
                    return i;
                }
            }
            return NOTHING;
        }

        private boolean canHaveLocks(Trial trial) {
            for (int i = 0; i < trialCount; i++) {
                if (trials[i].isRunning() && trials[i].hindersLocksOf(trial)) {
                    return false;
                }
            }
            return true;
        }

        private void begin(int trialNumber, int worker) {
            Trial trial = trials[trialNumber];
            trial.beginning = time;
            trial.worker = worker;
            trial.firstStrand = strandCount;
            trialOfWorker[worker] = trialNumber;
            startStrand(trial.program, trialNumber, NOTHING);
        }

        private void startStrand(int program, int trialNumber, int starter) {
            if (strandCount < STRAND_LIMIT) {
                strands[strandCount].start(program, trialNumber, starter);
                strandCount++;
                trials[trialNumber].strandCount++;
            }
        }

        private int countRunning() {
            int running = 0;
            for (int i = 0; i < trialCount; i++) {
                if (trials[i].isRunning()) {
                    running++;
                }
            }
            return running;
        }

        private boolean isFinished() {
            for (int i = 0; i < trialCount; i++) {
                if (trials[i].verdict == NONE) {
                    return false;
                }
            }
            for (int i = 0; i < workerCount; i++) {
                if (trialOfWorker[i] != NOTHING) {
                    return false;
                }
            }
            return true;
        }

        private void takeTurns() {
            int there = strandCount;
            for (int i = 0; i < there; i++) {
                if (!strands[i].isOver) {
                    takeTurn(i);
                }
            }
        }

        private void takeTurn(int number) {
            boolean goesOn = true;
            // A strand only moves forward: the last step is the one that finds the program's end.
            for (int step = 0; step <= ACTION_LIMIT && goesOn; step++) {
                goesOn = doAction(number);
            }
            if (strands[number].isOver) {
                tellEnd(number);
            }
        }

        /** Whether the strand has more to do in this turn. */
        private boolean doAction(int number) {
            Strand strand = strands[number];
            Program program = programs[strand.program];
            if (strand.at >= program.size) {
                strand.end(NOTHING);
                return false;
            }
            int op = program.ops[strand.at];
            int a = program.arguments[strand.at];
            switch (op) {
                case WORK:
                case SLEEP:
                case BLOCK:
                case JOIN:
                    return waitIn(number, op, a);
                case THROW:
                    strand.end(a);
                    return false;
                case END:
                    strand.end(NOTHING);
                    return false;
                default:
                    actAtOnce(number, op, a);
                    strand.at++;
                    return true;
            }
        }

        private void actAtOnce(int number, int op, int a) {
            Strand strand = strands[number];
            switch (op) {
                case STRAY:
                    if (strandCount < STRAY_LIMIT) {
                        startStrand(a, strand.trial, number);
                    }
                    break;
                case NOTE:
                    notes.add(100 * strand.trial + a);
                    break;
                case LOOK:
                    notes.add(100 * strand.trial + (strand.takeMark() ? 1 : 0));
                    break;
                case KEEP:
                    strand.isSilent = true;
                    break;
                case MARK:
                    markStartedBy(number);
                    break;
                default:
                    // A guard does nothing by itself: its program knows how far it reaches.
                    break;
            }
        }

        /** Whether the strand goes on in this turn, behind the action or behind a guard. */
        private boolean waitIn(int number, int op, int a) {
            Strand strand = strands[number];
            if (!strand.isWaiting) {
                strand.isWaiting = true;
                strand.wakeTime = time + a;
            }
            // The mark is asked first: it wins in the turn in which the wait would have ended.
            if (op != WORK && strand.takeMark()) {
                return interrupt(strand);
            }
            boolean isDone = op == JOIN ? areStartedOver(number) : op != BLOCK && time >= strand.wakeTime;
            if (!isDone) {
                return false;
            }
            strand.isWaiting = false;
            strand.at++;
            return true;
        }

        private boolean interrupt(Strand strand) {
            strand.isWaiting = false;
            int behind = programs[strand.program].endOfGuardAround(strand.at);
            if (behind == NOTHING) {
                strand.end(INTERRUPTED);
                return false;
            }
            strand.at = behind;
            return true;
        }

        private boolean areStartedOver(int starter) {
            for (int i = 0; i < strandCount; i++) {
                if (strands[i].starter == starter && !strands[i].isOver) {
                    return false;
                }
            }
            return true;
        }

        private void markStartedBy(int starter) {
            for (int i = 0; i < strandCount; i++) {
                if (strands[i].starter == starter && !strands[i].isOver) {
                    strands[i].isMarked = true;
                }
            }
        }

        private void tellEnd(int number) {
            Strand strand = strands[number];
            Trial trial = trials[strand.trial];
            boolean isTold = strand.death != NOTHING && !strand.isSilent;
            if (trial.verdict != NONE) {
                if (isTold) {
                    warnings.add(1000 * strand.trial + strand.death);
                }
            } else if (number == trial.firstStrand) {
                trial.decideByDeath(strand.death, time);
            } else if (isTold && trial.strayDeath == NOTHING) {
                trial.strayDeath = strand.death;
            }
        }

        private void leaveRest() {
            for (int i = 0; i < trialCount; i++) {
                if (trials[i].verdict == NONE) {
                    trials[i].decide(UNTRIED, time);
                }
            }
            for (int i = 0; i < strandCount; i++) {
                if (!strands[i].isOver) {
                    leftCount++;
                }
            }
        }
    }
}
