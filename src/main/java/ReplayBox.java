import java.util.Arrays;

/**
 * A box that runs small programs of threads by a schedule, keeps of each run only where threads changed and what came
 * from without, has it again to any step, forward and back, and answers: who wrote a place last, when a cell held a
 * number, which steps race, which schedule of few changes fails.
 */
public final class ReplayBox {
    private static final int THREADS = 4;
    private static final int INSTRUCTIONS = 24;
    private static final int PARTS = 4;
    private static final int CELLS = 12;
    private static final int LOCALS = 4;
    private static final int SLOTS = CELLS + THREADS * LOCALS;
    private static final int INPUTS = 30;
    private static final int TURNS = 40;
    private static final int TURN_STEPS = 100;
    private static final int STEPS = 300;
    private static final int THINGS = 12;
    private static final int ROW_PLACES = 16;
    private static final int SHELVES = 8;
    private static final int ELEMENTS = 60;
    private static final int FIND_CHANGES = 2;
    private static final int FIND_RUNS = 100;
    private static final int NO_OPENINGS = -1;

    private static final int SET = 0;
    private static final int GET = 1;
    private static final int PUT = 2;
    private static final int ADD = 3;
    private static final int LESS = 4;
    private static final int TIMES = 5;
    private static final int GO = 6;
    private static final int UNLESS = 7;
    private static final int ROW = 8;
    private static final int READ = 9;
    private static final int WRITE = 10;
    private static final int LOCK = 11;
    private static final int TAKE = 12;
    private static final int LEAVE = 13;
    private static final int WAIT = 14;
    private static final int WORD = 15;
    private static final int INPUT = 16;
    private static final int START = 17;
    private static final int FAIL = 18;
    private static final int END = 19;

    private static final int IS_NUMBER = 0;
    private static final int IS_ROW = 1;
    private static final int IS_LOCK = 2;
    private static final int IS_GATE = 3;

    private static final int FAILS_KIND = 1;
    private static final int FAILS_SIZE = 2;
    private static final int FAILS_ROOM = 3;
    private static final int FAILS_BEYOND = 4;
    private static final int FAILS_HELD = 5;
    private static final int FAILS_FREE = 6;
    private static final int FAILS_NONE = 7;
    private static final int FAILS_AS_TOLD = 10;
    private static final int CANNOT_GO = -1;

    private static final int TOOK = 1;
    private static final int LEFT = 2;
    private static final int WORDED = 3;
    private static final int STARTED = 4;

    private static final int UNSTARTED = 0;
    private static final int AWAKE = 1;
    private static final int ASLEEP = 2;
    private static final int WOKEN = 3;

    private static final int FREE = -2;
    private static final int NO_PLACE = -2;
    private static final int FIRST_ROW_PLACE = 100;
    private static final int ROW_SPACING = 20;

    private static final int WRONG = -1;
    private static final int FULL = -2;
    private static final int MISSING = -2;
    private static final int NOTHING_HELD = -11;
    private static final int OTHER_KIND = -12;
    private static final int NO_SUCH_PLACE = -13;
    private static final int BELOW_ZERO = -14;
    private static final int NO_FAILURE = -15;

    private final Program now;
    private final Program then;
    private final Machine seen;
    private final Machine other;
    private final Trace trace;
    private final Order order;
    private final Search search;
    private final Held[] shelves;
    private boolean ran;
    private int seenAt;
    private int view;
    private int played;
    private int playEnd;

    public ReplayBox() {
        now = new Program();
        then = new Program();
        seen = new Machine(then);
        other = new Machine(now);
        trace = new Trace();
        order = new Order(trace);
        search = new Search(now, other);
        shelves = new Held[SHELVES];
        playEnd = MISSING;
    }

    public int code(int thread, int op, int a, int b, int c) {
        if (!isThread(thread) || op < SET || op > END) {
            return WRONG;
        }
        int number = now.lengths[thread];
        if (number >= INSTRUCTIONS) {
            return FULL;
        }
        int first = now.firstPart(thread, number);
        now.parts[first] = op;
        now.parts[first + 1] = a;
        now.parts[first + 2] = b;
        now.parts[first + 3] = c;
        now.lengths[thread] = number + 1;
        return number;
    }

    public int clear(int thread) {
        if (!isThread(thread)) {
            return WRONG;
        }
        int had = now.lengths[thread];
        now.lengths[thread] = 0;
        return had;
    }

    public int cell(int cell, int v) {
        if (!isCell(cell)) {
            return WRONG;
        }
        now.cells[cell] = v;
        return 0;
    }

    public int input(int v) {
        if (now.inputCount >= INPUTS) {
            return FULL;
        }
        now.inputs[now.inputCount] = v;
        now.inputCount++;
        return now.inputCount;
    }

    public int turn(int thread, int steps) {
        if (!isThread(thread) || steps < 1 || steps > TURN_STEPS) {
            return WRONG;
        }
        if (now.turnCount >= TURNS) {
            return FULL;
        }
        now.turnThreads[now.turnCount] = thread;
        now.turnSteps[now.turnCount] = steps;
        now.turnCount++;
        return now.turnCount;
    }

    public int freely() {
        int had = now.turnCount;
        now.turnCount = 0;
        return had;
    }

    public int run() {
        then.become(now);
        seen.begin(then, then.inputCount);
        trace.record(seen);
        order.forget();
        ran = true;
        seenAt = trace.steps;
        view = trace.steps;
        return trace.over;
    }

    public int told(int what) {
        if (!ran) {
            return MISSING;
        }
        switch (what) {
            case 0:
                return trace.over;
            case 1:
                return trace.steps;
            case 2:
                return trace.failure;
            case 3:
                return trace.failure == 0 ? -1 : trace.latestThread();
            case 4:
                return trace.thingsMade;
            case 5:
                return trace.changes;
            case 6:
                return trace.inputsTaken;
            case 7:
                return 3 * trace.changes + 4 * trace.inputsTaken;
            default:
                return WRONG;
        }
    }

    public int change(int i, int what) {
        if (!ran || i < 0 || i >= trace.changes || what < 0 || what > 1) {
            return WRONG;
        }
        return what == 0 ? trace.changeSteps[i] : trace.changeThreads[i];
    }

    public int step(int s, int what) {
        if (!ran || s < 1 || s > trace.steps) {
            return WRONG;
        }
        switch (what) {
            case 0:
                return trace.threads[s];
            case 1:
                return trace.instructions[s];
            case 2:
                return trace.ops[s];
            case 3:
                return trace.reads[s];
            case 4:
                return trace.writes[s];
            case 5:
                return trace.marks[s];
            default:
                return WRONG;
        }
    }

    public int play(int n, int m) {
        if (!ran) {
            return MISSING;
        }
        if (n < 0 || n > trace.changes || m < 0 || m > trace.inputsTaken) {
            return WRONG;
        }
        // INPUTS only ever come behind the others, so the first m that are there now are the recorded ones.
        other.begin(now, m);
        playEnd = goByRecord(n);
        return played;
    }

    public int ended() {
        return playEnd;
    }

    public int to(int s) {
        if (!ran) {
            return MISSING;
        }
        if (!isMoment(s)) {
            return WRONG;
        }
        view = s;
        return view;
    }

    public int back(int n) {
        if (!ran) {
            return MISSING;
        }
        if (n < 0 || n > view) {
            return WRONG;
        }
        view -= n;
        return view;
    }

    public int value(int thread, int k, int what) throws IllegalArgumentException, IllegalStateException {
        if (!ran) {
            throw new IllegalStateException("there was no run");
        }
        int slot = thread == -1 ? cellSlot(k) : localSlot(thread, k);
        if (slot < 0 || what < 0 || what > 1) {
            throw new IllegalArgumentException("no such THREAD, CELL, LOCAL or what");
        }
        Machine machine = seenBehind(view);
        return what == 0 ? machine.kinds[slot] : machine.numbers[slot];
    }

    public int thing(int x, int what) {
        if (!ran) {
            return MISSING;
        }
        Machine machine = seenBehind(view);
        if (!machine.hasThing(x) || what < 0 || what > 1) {
            return WRONG;
        }
        if (what == 0) {
            return machine.thingKinds[x];
        }
        return machine.thingKinds[x] == IS_ROW ? machine.sizes[x] : machine.owners[x];
    }

    public int place(int x, int i) throws IllegalArgumentException, IllegalStateException {
        if (!ran) {
            throw new IllegalStateException("there was no run");
        }
        Machine machine = seenBehind(view);
        if (!machine.hasRowPlace(x, i)) {
            throw new IllegalArgumentException("no such place of a ROW");
        }
        return machine.rows[x * ROW_PLACES + i];
    }

    public int thread(int thread, int what) {
        if (!ran) {
            return MISSING;
        }
        if (!isThread(thread) || what < 0 || what > 1) {
            return WRONG;
        }
        Machine machine = seenBehind(view);
        return what == 0 ? machine.nextInstruction(thread) : machine.standing(thread);
    }

    public int last(int place, int s) {
        if (!ran) {
            return MISSING;
        }
        if (!isMoment(s)) {
            return WRONG;
        }
        return trace.lastWrite(place, s);
    }

    public int next(int place, int s) {
        if (!ran) {
            return MISSING;
        }
        if (!isMoment(s)) {
            return WRONG;
        }
        return trace.nextRead(place, s);
    }

    public int when(int cell, int v, int i, int what) {
        if (!ran) {
            return MISSING;
        }
        if (!isCell(cell) || what < 0 || what > 2) {
            return WRONG;
        }
        if (what == 0) {
            return trace.spanCount(cell, v, then.cells[cell]);
        }
        return trace.spanEdge(cell, v, then.cells[cell], i, what == 1);
    }

    public int ahead(int s, int t) {
        if (!ran) {
            return MISSING;
        }
        if (s < 1 || s >= t || t > trace.steps) {
            return WRONG;
        }
        order.prepare();
        return order.isAhead(s, t) ? 1 : 0;
    }

    public int race(int i, int what) {
        if (!ran) {
            return MISSING;
        }
        if (what < 0 || what > 3) {
            return WRONG;
        }
        order.prepare();
        if (what == 0) {
            return order.raceTotal;
        }
        if (i < 0 || i >= order.raceTotal) {
            return WRONG;
        }
        int later = order.laterOf(i);
        if (what == 2) {
            return later;
        }
        return what == 3 ? trace.placeOf(later) : order.earlierOf(i, later);
    }

    public int differ(int s, int t) {
        if (!ran) {
            return MISSING;
        }
        if (!isMoment(s) || !isMoment(t)) {
            return WRONG;
        }
        other.begin(then, then.inputCount);
        replay(other, 0, s);
        return seenBehind(t).differences(other);
    }

    public int find(int changes, int runs) {
        if (changes < 0 || changes > FIND_CHANGES || runs < 1 || runs > FIND_RUNS) {
            return WRONG;
        }
        return search.look(changes, runs);
    }

    public int found(int what) {
        if (what < 0 || what > 6) {
            return WRONG;
        }
        if (what == 6) {
            return search.made;
        }
        if (!search.hit) {
            return MISSING;
        }
        if (what == 0) {
            return search.changes;
        }
        if (what == 5) {
            return search.failure;
        }
        int which = (what - 1) / 2;
        if (which >= search.changes) {
            return MISSING;
        }
        return what % 2 == 1 ? search.changeSteps[which] : search.changeThreads[which];
    }

    public int keep(int d, int what, int k) {
        if (!ran || !isShelf(d) || what < 0 || what > 3) {
            return WRONG;
        }
        if (what == 1 && (k < 0 || k >= trace.thingsMade)) {
            return WRONG;
        }
        if (what == 0) {
            shelves[d] = null;
        } else if (what == 1) {
            shelves[d] = seenBehind(trace.steps).shelved(k);
        } else if (what == 2) {
            shelves[d] = threadsOfFirstSteps();
        } else {
            shelves[d] = numbersOfCells();
        }
        return 0;
    }

    public int make(int d, int what, int n) {
        if (!isShelf(d) || what < 2 || what > 3 || n > ELEMENTS) {
            return WRONG;
        }
        if (n < 0) {
            return BELOW_ZERO;
        }
        if (what == 2) {
            shelves[d] = new Bytes(new byte[n]);
        } else {
            shelves[d] = new Ints(new int[n]);
        }
        return 0;
    }

    public int element(int d, int i) throws IllegalArgumentException, IllegalStateException {
        if (!isShelf(d)) {
            throw new IllegalArgumentException("no such SHELF");
        }
        Held held = shelves[d];
        if (held == null || i < 0 || i >= held.length()) {
            throw new IllegalStateException("no such ROW or place on the SHELF");
        }
        return held.elementAt(i);
    }

    public int copy(int d, int i, int e, int j, int n) {
        if (!isShelf(d) || !isShelf(e)) {
            return WRONG;
        }
        Held from = shelves[d];
        Held onto = shelves[e];
        if (from == null || onto == null) {
            return NOTHING_HELD;
        }
        if (!onto.takesFrom(from)) {
            return OTHER_KIND;
        }
        if (!fits(i, n, from.length()) || !fits(j, n, onto.length())) {
            return NO_SUCH_PLACE;
        }
        onto.fill(j, from, i, n);
        return n;
    }

    public int weight(int d) {
        if (!isShelf(d)) {
            return WRONG;
        }
        Held held = shelves[d];
        if (held == null) {
            return NOTHING_HELD;
        }
        return held.isThing() ? held.heft() : OTHER_KIND;
    }

    public int toss(int d) {
        if (!isShelf(d)) {
            return WRONG;
        }
        Held held = shelves[d];
        if (held == null) {
            return NOTHING_HELD;
        }
        return held.isThing() ? caughtFrom(held) : OTHER_KIND;
    }

    private static boolean isThread(int thread) {
        return thread >= 0 && thread < THREADS;
    }

    private static boolean isCell(int cell) {
        return cell >= 0 && cell < CELLS;
    }

    private static boolean isShelf(int d) {
        return d >= 0 && d < SHELVES;
    }

    private boolean isMoment(int s) {
        return s >= 0 && s <= trace.steps;
    }

    private static int cellSlot(int k) {
        return isCell(k) ? k : -1;
    }

    private static int localSlot(int thread, int k) {
        if (!isThread(thread) || k < 0 || k >= LOCALS) {
            return -1;
        }
        return CELLS + thread * LOCALS + k;
    }

    // i <= length - n instead of i + n <= length: a sum of two large ints would wrap.
    private static boolean fits(int i, int n, int length) {
        return n >= 0 && i >= 0 && n <= length && i <= length - n;
    }

    private static int caughtFrom(Held held) {
        try {
            held.fling();
        } catch (UnsupportedOperationException none) {
            return NO_FAILURE;
        } catch (IllegalStateException flung) {
            return held.number;
        }
        return NO_FAILURE;
    }

    // The machine of THE VIEW stays where the latest look left it, so that steps forward cost only themselves.
    private Machine seenBehind(int s) {
        if (s < seenAt) {
            seen.begin(then, then.inputCount);
            seenAt = 0;
        }
        replay(seen, seenAt, s);
        seenAt = s;
        return seen;
    }

    private void replay(Machine machine, int from, int s) {
        for (int done = from; done < s && done < STEPS; done++) {
            machine.go(trace.threads[done + 1]);
        }
    }

    private int goByRecord(int n) {
        int thread = 0;
        int known = 0;
        int toldUntil = n > 0 && n <= STEPS ? trace.changeSteps[n - 1] : -1;
        for (played = 0; played < STEPS; played++) {
            if (known < n && known < STEPS && trace.changeSteps[known] == played) {
                thread = trace.changeThreads[known];
                known++;
            }
            if (played > toldUntil) {
                thread = other.whoGoes(thread);
            }
            if (thread < 0) {
                return 0;
            }
            int failure = other.go(thread);
            if (failure == CANNOT_GO) {
                return 1;
            }
            // Nothing but INPUT fails so; an INPUT that isn't known is no step of the record.
            if (failure == FAILS_NONE) {
                return 2;
            }
            if (failure != 0) {
                played++;
                return 3;
            }
        }
        return other.whoGoes(0) < 0 ? 0 : 4;
    }

    private Held threadsOfFirstSteps() {
        int length = Math.min(trace.steps, ELEMENTS);
        byte[] bytes = new byte[Math.max(length, 0)];
        for (int k = 0; k < bytes.length; k++) {
            bytes[k] = (byte) trace.threads[k + 1];
        }
        return new Bytes(bytes);
    }

    private Held numbersOfCells() {
        Machine machine = seenBehind(trace.steps);
        int[] ints = new int[CELLS];
        for (int k = 0; k < CELLS; k++) {
            ints[k] = machine.kinds[k] == IS_NUMBER ? machine.numbers[k] : 0;
        }
        return new Ints(ints);
    }

    /** What is told before a run: INSTRUCTIONS, CELLS at first, INPUTS, TURNS. */
    private static final class Program {
        final int[] lengths = new int[THREADS];
        final int[] parts = new int[THREADS * INSTRUCTIONS * PARTS];
        final int[] cells = new int[CELLS];
        final int[] inputs = new int[INPUTS];
        final int[] turnThreads = new int[TURNS];
        final int[] turnSteps = new int[TURNS];
        int inputCount;
        int turnCount;

        void become(Program from) {
            System.arraycopy(from.lengths, 0, lengths, 0, THREADS);
            System.arraycopy(from.parts, 0, parts, 0, parts.length);
            System.arraycopy(from.cells, 0, cells, 0, CELLS);
            System.arraycopy(from.inputs, 0, inputs, 0, INPUTS);
            System.arraycopy(from.turnThreads, 0, turnThreads, 0, TURNS);
            System.arraycopy(from.turnSteps, 0, turnSteps, 0, TURNS);
            inputCount = from.inputCount;
            turnCount = from.turnCount;
        }

        boolean has(int thread, int instruction) {
            return instruction >= 0 && instruction < INSTRUCTIONS && instruction < lengths[thread];
        }

        int firstPart(int thread, int instruction) {
            return (thread * INSTRUCTIONS + instruction) * PARTS;
        }

        int opOf(int thread, int instruction) {
            return has(thread, instruction) ? parts[firstPart(thread, instruction)] : END;
        }
    }

    /** The state of one run behind some step, and what its latest step did. */
    private static final class Machine {
        // CELLS and LOCALS are slots of the same rows: a VALUE moves between them, and they are compared alike.
        final int[] kinds = new int[SLOTS];
        final int[] numbers = new int[SLOTS];
        final int[] at = new int[THREADS];
        final int[] moods = new int[THREADS];
        final int[] gates = new int[THREADS];
        final int[] thingKinds = new int[THINGS];
        final int[] sizes = new int[THINGS];
        final int[] owners = new int[THINGS];
        final int[] rows = new int[THINGS * ROW_PLACES];
        Program program;
        int things;
        int inputsKnown;
        int inputsTaken;
        int following;
        int readPlace;
        int writtenPlace;
        int mark;
        int marked;

        Machine(Program program) {
            this.program = program;
        }

        void begin(Program from, int known) {
            program = from;
            Arrays.fill(kinds, IS_NUMBER);
            Arrays.fill(numbers, 0);
            System.arraycopy(from.cells, 0, numbers, 0, CELLS);
            Arrays.fill(at, 0);
            Arrays.fill(moods, UNSTARTED);
            moods[0] = AWAKE;
            things = 0;
            inputsKnown = known;
            inputsTaken = 0;
        }

        boolean hasEnded(int thread) {
            return !program.has(thread, at[thread]);
        }

        int nextInstruction(int thread) {
            return hasEnded(thread) ? INSTRUCTIONS : at[thread];
        }

        boolean canGo(int thread) {
            if (moods[thread] == UNSTARTED || moods[thread] == ASLEEP || hasEnded(thread)) {
                return false;
            }
            if (moods[thread] == WOKEN) {
                return owners[gates[thread]] == FREE;
            }
            int first = program.firstPart(thread, at[thread]);
            if (program.parts[first] != TAKE) {
                return true;
            }
            int lock = lockIn(slotOf(thread, program.parts[first + 1]));
            return lock < 0 || owners[lock] == FREE || owners[lock] == thread;
        }

        // The one that goes on by itself; -1 where none can.
        int whoGoes(int latest) {
            if (latest >= 0 && latest < THREADS && canGo(latest)) {
                return latest;
            }
            for (int thread = 0; thread < THREADS; thread++) {
                if (canGo(thread)) {
                    return thread;
                }
            }
            return -1;
        }

        // A bit for each THREAD that could go instead of this one.
        int rivalsOf(int own) {
            int bits = 0;
            for (int thread = 0; thread < THREADS; thread++) {
                if (thread != own && canGo(thread)) {
                    bits |= 1 << thread;
                }
            }
            return bits;
        }

        boolean allStartedHaveEnded() {
            for (int thread = 0; thread < THREADS; thread++) {
                if (moods[thread] != UNSTARTED && !hasEnded(thread)) {
                    return false;
                }
            }
            return true;
        }

        int standing(int thread) {
            if (moods[thread] == UNSTARTED) {
                return 0;
            }
            if (moods[thread] == ASLEEP) {
                return 3;
            }
            if (hasEnded(thread)) {
                return 4;
            }
            return canGo(thread) ? 1 : 2;
        }

        boolean hasThing(int x) {
            return x >= 0 && x < things;
        }

        boolean hasRowPlace(int x, int i) {
            return x >= 0 && x < things && thingKinds[x] == IS_ROW && i >= 0 && i < sizes[x];
        }

        Held shelved(int x) {
            if (!hasThing(x)) {
                return null;
            }
            switch (thingKinds[x]) {
                case IS_ROW:
                    return new ShelvedRow(x, sizes[x]);
                case IS_LOCK:
                    return new ShelvedLock(x);
                default:
                    return new ShelvedGate(x);
            }
        }

        int differences(Machine with) {
            int count = 0;
            for (int slot = 0; slot < SLOTS; slot++) {
                if (kinds[slot] != with.kinds[slot] || numbers[slot] != with.numbers[slot]) {
                    count++;
                }
            }
            for (int thread = 0; thread < THREADS; thread++) {
                if (nextInstruction(thread) != with.nextInstruction(thread)) {
                    count++;
                }
            }
            return count;
        }

        // One step of a THREAD: its FAILURE, 0 without one, CANNOT_GO where there was no step.
        int go(int thread) {
            if (!canGo(thread)) {
                return CANNOT_GO;
            }
            readPlace = NO_PLACE;
            writtenPlace = NO_PLACE;
            mark = 0;
            marked = 0;
            following = at[thread] + 1;
            int failure = moods[thread] == WOKEN ? rise(thread) : perform(thread);
            if (failure == 0) {
                at[thread] = following;
            }
            return failure;
        }

        private int perform(int thread) {
            int first = program.firstPart(thread, at[thread]);
            int a = program.parts[first + 1];
            int b = program.parts[first + 2];
            int slotA = slotOf(thread, a);
            int slotB = slotOf(thread, b);
            int slotC = slotOf(thread, program.parts[first + 3]);
            switch (program.parts[first]) {
                case SET:
                    return hold(slotA, IS_NUMBER, b);
                case GET:
                    return getCell(slotA, Math.floorMod(b, CELLS));
                case PUT:
                    return putCell(Math.floorMod(a, CELLS), slotB);
                case ADD:
                case LESS:
                case TIMES:
                    return reckon(program.parts[first], slotA, slotB);
                case GO:
                    return goTo(a);
                case UNLESS:
                    return goUnless(slotA, b);
                case ROW:
                    return makeRow(slotA, slotB);
                case READ:
                    return readRow(slotA, slotB, slotC);
                case WRITE:
                    return writeRow(slotA, slotB, slotC);
                case LOCK:
                    return makeLock(slotA, (b & 1) != 0);
                case TAKE:
                    return takeLock(thread, slotA);
                case LEAVE:
                    return leaveLock(thread, slotA);
                case WAIT:
                    return lieDown(thread, slotA);
                case WORD:
                    return wakeSleepers(thread, slotA);
                case INPUT:
                    return takeInput(slotA);
                case START:
                    return startThread(Math.floorMod(a, THREADS));
                case FAIL:
                    return FAILS_AS_TOLD + Math.floorMod(b, 10);
                default:
                    return goTo(INSTRUCTIONS);
            }
        }

        private static int slotOf(int thread, int local) {
            return CELLS + thread * LOCALS + Math.floorMod(local, LOCALS);
        }

        private boolean bothNumbers(int slot, int slot2) {
            return kinds[slot] == IS_NUMBER && kinds[slot2] == IS_NUMBER;
        }

        private int lockIn(int slot) {
            return kinds[slot] == IS_LOCK || kinds[slot] == IS_GATE ? numbers[slot] : -1;
        }

        private int gateIn(int slot) {
            return kinds[slot] == IS_GATE ? numbers[slot] : -1;
        }

        private int hold(int slot, int kind, int number) {
            kinds[slot] = kind;
            numbers[slot] = number;
            return 0;
        }

        private int getCell(int slot, int cell) {
            readPlace = cell;
            return hold(slot, kinds[cell], numbers[cell]);
        }

        private int putCell(int cell, int slot) {
            writtenPlace = cell;
            return hold(cell, kinds[slot], numbers[slot]);
        }

        private int reckon(int op, int slot, int slot2) {
            if (!bothNumbers(slot, slot2)) {
                return FAILS_KIND;
            }
            int x = numbers[slot];
            int y = numbers[slot2];
            int result = op == ADD ? x + y : op == LESS ? x - y : x * y;
            return hold(slot, IS_NUMBER, result);
        }

        private int goTo(int instruction) {
            following = instruction;
            return 0;
        }

        private int goUnless(int slot, int instruction) {
            if (kinds[slot] != IS_NUMBER) {
                return FAILS_KIND;
            }
            return numbers[slot] == 0 ? goTo(instruction) : 0;
        }

        private int makeThing(int slot, int kind, int size) {
            int x = things;
            things++;
            thingKinds[x] = kind;
            sizes[x] = size;
            owners[x] = FREE;
            kinds[slot] = kind;
            numbers[slot] = x;
            return 0;
        }

        private int makeRow(int slot, int sizeSlot) {
            if (kinds[sizeSlot] != IS_NUMBER) {
                return FAILS_KIND;
            }
            int size = numbers[sizeSlot];
            if (size < 0) {
                return FAILS_SIZE;
            }
            if (size > ROW_PLACES || things >= THINGS) {
                return FAILS_ROOM;
            }
            for (int i = 0; i < size; i++) {
                rows[things * ROW_PLACES + i] = 0;
            }
            return makeThing(slot, IS_ROW, size);
        }

        private int makeLock(int slot, boolean isGate) {
            if (things >= THINGS) {
                return FAILS_ROOM;
            }
            return makeThing(slot, isGate ? IS_GATE : IS_LOCK, 0);
        }

        private int readRow(int slot, int rowSlot, int placeSlot) {
            if (kinds[rowSlot] != IS_ROW || kinds[placeSlot] != IS_NUMBER) {
                return FAILS_KIND;
            }
            int x = numbers[rowSlot];
            int i = numbers[placeSlot];
            if (!hasRowPlace(x, i)) {
                return FAILS_BEYOND;
            }
            readPlace = FIRST_ROW_PLACE + x * ROW_SPACING + i;
            return hold(slot, IS_NUMBER, rows[x * ROW_PLACES + i]);
        }

        private int writeRow(int rowSlot, int placeSlot, int slot) {
            if (kinds[rowSlot] != IS_ROW || !bothNumbers(placeSlot, slot)) {
                return FAILS_KIND;
            }
            int x = numbers[rowSlot];
            int i = numbers[placeSlot];
            if (!hasRowPlace(x, i)) {
                return FAILS_BEYOND;
            }
            writtenPlace = FIRST_ROW_PLACE + x * ROW_SPACING + i;
            rows[x * ROW_PLACES + i] = numbers[slot];
            return 0;
        }

        private int takeLock(int thread, int slot) {
            int lock = lockIn(slot);
            if (lock < 0) {
                return FAILS_KIND;
            }
            if (owners[lock] == thread) {
                return FAILS_HELD;
            }
            return own(thread, lock);
        }

        private int own(int thread, int lock) {
            owners[lock] = thread;
            mark = TOOK;
            marked = lock;
            return 0;
        }

        private int free(int lock) {
            owners[lock] = FREE;
            mark = LEFT;
            marked = lock;
            return 0;
        }

        private int leaveLock(int thread, int slot) {
            int lock = lockIn(slot);
            if (lock < 0) {
                return FAILS_KIND;
            }
            if (owners[lock] != thread) {
                return FAILS_FREE;
            }
            return free(lock);
        }

        private int lieDown(int thread, int slot) {
            int gate = gateIn(slot);
            if (gate < 0) {
                return FAILS_KIND;
            }
            if (owners[gate] != thread) {
                return FAILS_FREE;
            }
            moods[thread] = ASLEEP;
            gates[thread] = gate;
            following = at[thread];
            return free(gate);
        }

        private int rise(int thread) {
            moods[thread] = AWAKE;
            return own(thread, gates[thread]);
        }

        private int wakeSleepers(int thread, int slot) {
            int gate = gateIn(slot);
            if (gate < 0) {
                return FAILS_KIND;
            }
            if (owners[gate] != thread) {
                return FAILS_FREE;
            }
            for (int sleeper = 0; sleeper < THREADS; sleeper++) {
                if (moods[sleeper] == ASLEEP && gates[sleeper] == gate) {
                    moods[sleeper] = WOKEN;
                }
            }
            mark = WORDED;
            return 0;
        }

        private int takeInput(int slot) {
            if (inputsTaken >= inputsKnown || inputsTaken >= INPUTS) {
                return FAILS_NONE;
            }
            inputsTaken++;
            return hold(slot, IS_NUMBER, program.inputs[inputsTaken - 1]);
        }

        private int startThread(int thread) {
            if (moods[thread] != UNSTARTED) {
                return FAILS_HELD;
            }
            moods[thread] = AWAKE;
            mark = STARTED;
            marked = thread;
            return 0;
        }
    }

    /** What is told of the latest run: its steps (from 1 on), its CHANGES, and how it was over. */
    private static final class Trace {
        final int[] threads = new int[STEPS + 1];
        final int[] instructions = new int[STEPS + 1];
        final int[] ops = new int[STEPS + 1];
        final int[] reads = new int[STEPS + 1];
        final int[] writes = new int[STEPS + 1];
        final int[] writtenKinds = new int[STEPS + 1];
        final int[] writtenNumbers = new int[STEPS + 1];
        final int[] marks = new int[STEPS + 1];
        final int[] marked = new int[STEPS + 1];
        final int[] changeSteps = new int[STEPS];
        final int[] changeThreads = new int[STEPS];
        int steps;
        int changes;
        int over;
        int failure;
        int thingsMade;
        int inputsTaken;

        void record(Machine machine) {
            steps = 0;
            changes = 0;
            failure = 0;
            takeTurns(machine, machine.program);
            goOn(machine);
            over = howOver(machine);
            thingsMade = machine.things;
            inputsTaken = machine.inputsTaken;
        }

        int latestThread() {
            return steps > 0 && steps <= STEPS ? threads[steps] : 0;
        }

        private void takeTurns(Machine machine, Program program) {
            for (int k = 0; k < program.turnCount && k < TURNS; k++) {
                int thread = program.turnThreads[k];
                boolean goes = true;
                for (int n = 0; n < program.turnSteps[k] && goes; n++) {
                    goes = advance(machine, thread);
                }
            }
        }

        private void goOn(Machine machine) {
            boolean goes = true;
            for (int n = 0; n < STEPS && goes; n++) {
                int thread = machine.whoGoes(latestThread());
                goes = thread >= 0 && advance(machine, thread);
            }
        }

        private boolean advance(Machine machine, int thread) {
            if (failure != 0 || steps >= STEPS) {
                return false;
            }
            int instruction = machine.nextInstruction(thread);
            int failed = machine.go(thread);
            if (failed == CANNOT_GO) {
                return false;
            }
            failure = failed;
            noteChange(thread);
            steps++;
            threads[steps] = thread;
            instructions[steps] = instruction;
            ops[steps] = machine.program.opOf(thread, instruction);
            noteEffects(machine);
            return true;
        }

        private void noteChange(int thread) {
            if (thread != latestThread()) {
                changeSteps[changes] = steps;
                changeThreads[changes] = thread;
                changes++;
            }
        }

        private void noteEffects(Machine machine) {
            int written = machine.writtenPlace;
            reads[steps] = machine.readPlace;
            writes[steps] = written;
            if (written >= 0 && written < CELLS) {
                writtenKinds[steps] = machine.kinds[written];
                writtenNumbers[steps] = machine.numbers[written];
            }
            marks[steps] = machine.mark;
            marked[steps] = machine.marked;
        }

        private int howOver(Machine machine) {
            if (failure != 0) {
                return 2;
            }
            if (machine.whoGoes(0) >= 0) {
                return 3;
            }
            return machine.allStartedHaveEnded() ? 0 : 1;
        }

        int placeOf(int s) {
            return reads[s] != NO_PLACE ? reads[s] : writes[s];
        }

        int lastWrite(int place, int s) {
            // -2 stands in the rows where nothing was written: it is no PLACE that anybody wrote.
            if (place == NO_PLACE) {
                return 0;
            }
            for (int k = s; k > 0; k--) {
                if (writes[k] == place) {
                    return k;
                }
            }
            return 0;
        }

        int nextRead(int place, int s) {
            if (place == NO_PLACE) {
                return 0;
            }
            for (int k = s + 1; k <= steps; k++) {
                if (reads[k] == place) {
                    return k;
                }
            }
            return 0;
        }

        int spanCount(int cell, int v, int atFirst) {
            int count = 0;
            boolean held = false;
            boolean holds = atFirst == v;
            for (int s = 0; s <= steps; s++) {
                holds = holdsBehind(s, cell, v, holds);
                if (holds && !held) {
                    count++;
                }
                held = holds;
            }
            return count;
        }

        // The first or the last step of SPAN i; WRONG where there is no such one.
        int spanEdge(int cell, int v, int atFirst, int i, boolean first) {
            int span = -1;
            boolean held = false;
            boolean holds = atFirst == v;
            for (int s = 0; s <= steps; s++) {
                holds = holdsBehind(s, cell, v, holds);
                if (holds && !held) {
                    span++;
                    if (first && span == i) {
                        return s;
                    }
                }
                if (held && !holds && span == i) {
                    return s - 1;
                }
                held = holds;
            }
            return held && !first && span == i ? steps : WRONG;
        }

        private boolean holdsBehind(int s, int cell, int v, boolean heldAhead) {
            if (s == 0 || writes[s] != cell) {
                return heldAhead;
            }
            return writtenKinds[s] == IS_NUMBER && writtenNumbers[s] == v;
        }
    }

    /** Which steps of the latest run are AHEAD of which, and which RACE. */
    private static final class Order {
        final Trace trace;
        // Of each step and each THREAD: the latest step of that THREAD which is AHEAD of it, or is it; 0: none.
        // Steps of one THREAD are all AHEAD of its later ones, so the latest one tells all of them.
        final int[] known = new int[(STEPS + 1) * THREADS];
        final int[] knownNow = new int[THREADS * THREADS];
        final int[] knownOfLeft = new int[THINGS * THREADS];
        final int[] racesOf = new int[STEPS + 1];
        int raceTotal;
        boolean prepared;

        Order(Trace trace) {
            this.trace = trace;
        }

        void forget() {
            prepared = false;
        }

        // Most runs are never asked for their order, and comparing all pairs of steps is dear: it waits for the first
        // question.
        void prepare() {
            if (prepared) {
                return;
            }
            Arrays.fill(knownNow, 0);
            Arrays.fill(knownOfLeft, 0);
            raceTotal = 0;
            for (int t = 1; t <= trace.steps; t++) {
                learn(t);
                racesOf[t] = countRaces(t);
                raceTotal += racesOf[t];
            }
            prepared = true;
        }

        // A WORD needs no line of its own: whom it wakes takes the GATE only behind the step that leaves it later,
        // which is of the same THREAD as the WORD.
        private void learn(int t) {
            int own = trace.threads[t] * THREADS;
            int marked = trace.marked[t] * THREADS;
            knownNow[own + trace.threads[t]] = t;
            if (trace.marks[t] == TOOK) {
                join(knownOfLeft, marked, knownNow, own);
            } else if (trace.marks[t] == LEFT) {
                join(knownNow, own, knownOfLeft, marked);
            } else if (trace.marks[t] == STARTED) {
                join(knownNow, own, knownNow, marked);
            }
            System.arraycopy(knownNow, own, known, t * THREADS, THREADS);
        }

        private static void join(int[] from, int fromFirst, int[] into, int intoFirst) {
            for (int k = 0; k < THREADS; k++) {
                into[intoFirst + k] = Math.max(into[intoFirst + k], from[fromFirst + k]);
            }
        }

        boolean isAhead(int s, int t) {
            return s < t && known[t * THREADS + trace.threads[s]] >= s;
        }

        private boolean isRace(int s, int t) {
            int place = trace.placeOf(t);
            if (place == NO_PLACE || trace.placeOf(s) != place || trace.threads[s] == trace.threads[t]) {
                return false;
            }
            return (trace.writes[s] == place || trace.writes[t] == place) && !isAhead(s, t);
        }

        private int countRaces(int t) {
            if (trace.placeOf(t) == NO_PLACE) {
                return 0;
            }
            int count = 0;
            for (int s = 1; s < t; s++) {
                if (isRace(s, t)) {
                    count++;
                }
            }
            return count;
        }

        int laterOf(int i) {
            int before = 0;
            for (int t = 1; t <= trace.steps; t++) {
                before += racesOf[t];
                if (i < before) {
                    return t;
                }
            }
            return 0;
        }

        int earlierOf(int i, int later) {
            int left = i;
            for (int t = 1; t < later; t++) {
                left -= racesOf[t];
            }
            for (int s = 1; s < later; s++) {
                if (isRace(s, later)) {
                    if (left == 0) {
                        return s;
                    }
                    left--;
                }
            }
            return 0;
        }
    }

    /** The runs of the latest find(), and the one that it FOUND. */
    private static final class Search {
        final Program program;
        final Machine machine;
        // Of the run that CHANGE 0, or 1, is put into, behind each number of steps: a bit for each THREAD that could go
        // on instead; and how many steps that run has.
        final int[][] openings = new int[FIND_CHANGES][STEPS];
        final int[] openingEnds = new int[FIND_CHANGES];
        final int[] changeSteps = new int[FIND_CHANGES];
        final int[] changeThreads = new int[FIND_CHANGES];
        int changes;
        int steps;
        int failure;
        int made;
        boolean hit;

        Search(Program program, Machine machine) {
            this.program = program;
            this.machine = machine;
        }

        int look(int mostChanges, int mostRuns) {
            changes = 0;
            made = 1;
            goThrough(0);
            for (int wanted = 1; wanted <= mostChanges && failure == 0; wanted++) {
                changes = wanted;
                putAhead(0, 1);
                openingEnds[1] = 0;
                while (made < mostRuns && failure == 0 && putChanges()) {
                    made++;
                    goThrough(NO_OPENINGS);
                }
            }
            hit = failure != 0;
            return hit ? made : 0;
        }

        // The next CHANGES in the order told; false: there are none more.
        private boolean putChanges() {
            if (changes == 1) {
                return moveOn(0);
            }
            for (int n = 0; n < STEPS * THREADS; n++) {
                if (moveOn(1)) {
                    return true;
                }
                if (!moveOn(0)) {
                    return false;
                }
                // With its one CHANGE this run was made and counted before; now it only shows where a second can be.
                changes = 1;
                goThrough(1);
                changes = 2;
                putAhead(1, changeSteps[0] + 1);
            }
            return false;
        }

        // Ahead of all THREADS behind so many steps, so that moving on finds the first of them.
        private void putAhead(int which, int behindSteps) {
            changeSteps[which] = behindSteps;
            changeThreads[which] = -1;
        }

        private boolean moveOn(int which) {
            int from = changeThreads[which] + 1;
            for (int k = changeSteps[which]; k < openingEnds[which]; k++) {
                for (int thread = from; thread < THREADS; thread++) {
                    if (((openings[which][k] >> thread) & 1) != 0) {
                        changeSteps[which] = k;
                        changeThreads[which] = thread;
                        return true;
                    }
                }
                from = 0;
            }
            return false;
        }

        // A run with the CHANGES; its openings for CHANGE which are kept, unless nobody will ask for them.
        private void goThrough(int which) {
            machine.begin(program, program.inputCount);
            int thread = machine.whoGoes(0);
            failure = 0;
            for (steps = 0; steps < STEPS && thread >= 0 && failure == 0; steps++) {
                if (which != NO_OPENINGS) {
                    openings[which][steps] = machine.rivalsOf(thread);
                }
                thread = chosen(thread);
                failure = machine.go(thread);
                thread = machine.whoGoes(thread);
            }
            if (which != NO_OPENINGS) {
                openingEnds[which] = steps;
            }
        }

        private int chosen(int byItself) {
            for (int which = 0; which < changes && which < FIND_CHANGES; which++) {
                if (changeSteps[which] == steps) {
                    return changeThreads[which];
                }
            }
            return byItself;
        }
    }

    /** What a SHELF holds: a ROW of elements, or a THING with its number. */
    private abstract static class Held {
        final int number;

        Held(int number) {
            this.number = number;
        }

        boolean isThing() {
            return false;
        }

        int length() {
            return 0;
        }

        int elementAt(int i) {
            return 0;
        }

        boolean takesFrom(Held from) {
            return false;
        }

        void fill(int j, Held from, int i, int n) {
        }

        int heft() {
            return number + 1;
        }

        void fling() {
            throw new UnsupportedOperationException("it has no FAILURE");
        }
    }

    private static final class Bytes extends Held {
        private final byte[] bytes;

        Bytes(byte[] bytes) {
            super(0);
            this.bytes = bytes;
        }

        int length() {
            return bytes.length;
        }

        int elementAt(int i) {
            return i >= 0 && i < bytes.length ? bytes[i] : 0;
        }

        boolean takesFrom(Held from) {
            return from instanceof Bytes;
        }

        void fill(int j, Held from, int i, int n) {
            if (from instanceof Bytes source && fits(i, n, source.bytes.length) && fits(j, n, bytes.length)) {
                System.arraycopy(source.bytes, i, bytes, j, n);
            }
        }
    }

    private static final class Ints extends Held {
        private final int[] ints;

        Ints(int[] ints) {
            super(0);
            this.ints = ints;
        }

        int length() {
            return ints.length;
        }

        int elementAt(int i) {
            return i >= 0 && i < ints.length ? ints[i] : 0;
        }

        boolean takesFrom(Held from) {
            return from instanceof Ints;
        }

        void fill(int j, Held from, int i, int n) {
            if (from instanceof Ints source && fits(i, n, source.ints.length) && fits(j, n, ints.length)) {
                System.arraycopy(source.ints, i, ints, j, n);
            }
        }
    }

    private static final class ShelvedRow extends Held {
        private final int places;

        ShelvedRow(int number, int places) {
            super(number);
            this.places = places;
        }

        boolean isThing() {
            return true;
        }

        int heft() {
            return super.heft() + 10 * places;
        }
    }

    private static class ShelvedLock extends Held {
        ShelvedLock(int number) {
            super(number);
        }

        boolean isThing() {
            return true;
        }

        int heft() {
            return super.heft() + 100;
        }

        void fling() {
            throw new IllegalStateException("the FAILURE of a LOCK");
        }
    }

    private static final class ShelvedGate extends ShelvedLock {
        ShelvedGate(int number) {
            super(number);
        }

        int heft() {
            return 2 * super.heft();
        }
    }
}
