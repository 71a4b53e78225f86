/**
 * Promises 11 and 14 to 25, held against PlainBox at every step and for every pair of steps: THREADS that share a GATE,
 * a LOCK, a ROW and CELLS, by TURNS of few steps, so that they wait for one another, and what is AHEAD goes by LEAVE
 * and TAKE, WAIT and WORD, and START.
 */
public final class StepModelTest {
    private static final int PROGRAMS = 400;
    private static final int MOST_CALLS = 512;
    private static final int SET = 0;
    private static final int GET = 1;
    private static final int PUT = 2;
    private static final int ROW = 8;
    private static final int READ = 9;
    private static final int WRITE = 10;
    private static final int LOCK = 11;
    private static final int TAKE = 12;
    private static final int LEAVE = 13;
    private static final int WAIT = 14;
    private static final int WORD = 15;
    private static final int START = 17;
    private static final int GATE_CELL = 9;
    private static final int LOCK_CELL = 10;
    private static final int ROW_CELL = 11;
    // The ROW is THING 2.
    private static final int FIRST_ROW_PLACE = 140;

    // What was come to: a test that seldom comes there would look at little.
    private static int woken;
    private static int waiting;
    private static int aheadOfOthers;
    private static int racing;
    private static int laterSpans;

    private final Due due;
    private final int number;
    private Twins twins;
    private int view;

    private StepModelTest(Due due, int number) {
        this.due = due;
        this.number = number;
    }

    public static void main(String[] args) {
        Due due = new Due();
        int programs = args.length > 0 ? Integer.parseInt(args[0]) : PROGRAMS;
        for (int k = 0; k < programs; k++) {
            StepModelTest test = new StepModelTest(due, k);
            test.askAll();
        }
        System.out.println("steps behind a WAIT: " + woken + ", THREADS that can't go: " + waiting
                + ", AHEAD of another THREAD's: " + aheadOfOthers + ", RACES: " + racing + ", later SPANS: "
                + laterSpans);
        for (int count : new int[] {woken, waiting, aheadOfOthers, racing, laterSpans}) {
            due.is("many programs come there", count > programs / 4 ? 1 : 0, 1);
        }
        due.close();
    }

    private void writeProgram() {
        code(0, LOCK, 0, 1, 0);
        code(0, PUT, GATE_CELL, 0, 0);
        code(0, LOCK, 1, 0, 0);
        code(0, PUT, LOCK_CELL, 1, 0);
        code(0, SET, 3, 2, 0);
        code(0, ROW, 2, 3, 0);
        code(0, PUT, ROW_CELL, 2, 0);
        int threads = 2 + twins.random(3);
        for (int thread = 1; thread < threads; thread++) {
            // The last one may be STARTED by another one than THREAD 0.
            code(thread == 3 ? twins.random(3) : 0, START, thread, 0, 0);
        }
        for (int thread = 0; thread < threads; thread++) {
            code(thread, GET, 0, GATE_CELL, 0);
            code(thread, GET, 1, LOCK_CELL, 0);
            for (int k = 0; k < 3; k++) {
                writePiece(thread);
            }
        }
        twins.turn(0, 9 + threads);
        for (int thread = 1; thread < threads; thread += 2) {
            twins.turn(thread, 4 + twins.random(4));
        }
        for (int k = twins.random(25); k > 0; k--) {
            twins.turn(twins.random(threads), 1 + twins.random(4));
        }
    }

    private void code(int thread, int op, int a, int b, int c) {
        twins.code(thread, op, a, b, c);
    }

    // Those of odd number WAIT, the others have the WORD, so that most who are ASLEEP are WOKEN.
    private void writePiece(int thread) {
        switch (twins.random(6)) {
            case 0:
                code(thread, TAKE, 1, 0, 0);
                touch(thread);
                code(thread, LEAVE, 1, 0, 0);
                break;
            case 1:
            case 2:
            case 3:
                code(thread, TAKE, 0, 0, 0);
                code(thread, thread % 2 == 1 ? WAIT : WORD, 0, 0, 0);
                touch(thread);
                code(thread, LEAVE, 0, 0, 0);
                break;
            default:
                touch(thread);
                touch(thread);
        }
    }

    private void touch(int thread) {
        switch (twins.random(6)) {
            case 0:
            case 1:
                code(thread, GET, 3, twins.random(2), 0);
                break;
            case 2:
                code(thread, PUT, twins.random(2), 3, 0);
                break;
            case 3:
                code(thread, SET, 3, twins.random(2), 0);
                code(thread, PUT, twins.random(2), 3, 0);
                break;
            default:
                touchRow(thread);
        }
    }

    private void touchRow(int thread) {
        code(thread, GET, 2, ROW_CELL, 0);
        code(thread, SET, 3, twins.random(2), 0);
        if (twins.random(2) == 0) {
            code(thread, READ, 3, 2, 3);
        } else {
            code(thread, WRITE, 2, 3, 3);
        }
    }

    // A box has only so many calls: where they are over a new one is made by the same row of numbers.
    private void begin() {
        twins = new Twins(due, number);
        writeProgram();
        twins.run();
    }

    private void ask(String call, Due.Call got, Due.Call want) {
        if (twins.history.size() >= MOST_CALLS) {
            begin();
            goTo(view);
        }
        twins.check(call, got, want);
    }

    private void askAll() {
        begin();
        int steps = twins.plain.told(1);
        for (int s = 0; s <= steps && !twins.wrong; s++) {
            askView(s, steps);
            askState();
            askPlaces(s);
            askPairs(s);
        }
        for (int cell = 0; cell <= 2 && !twins.wrong; cell++) {
            askSpans(cell, 0);
            askSpans(cell, 1);
        }
        askRaces();
    }

    private void goTo(int s) {
        twins.check("to(" + s + ")", () -> twins.box.to(s), () -> twins.plain.to(s));
    }

    // Forward by one step, or back from the end, so that THE VIEW is come to from either side.
    private void askView(int s, int steps) {
        if (s % 3 != 0) {
            goTo(s);
        } else {
            goTo(steps);
            int n = steps - s;
            twins.check("back(" + n + ")", () -> twins.box.back(n), () -> twins.plain.back(n));
        }
        view = s;
    }

    private void askState() {
        for (int thread = -1; thread <= 3; thread++) {
            for (int k = 0; k < (thread < 0 ? 12 : 4); k++) {
                askValue(thread, k, 0);
                askValue(thread, k, 1);
            }
            askThread(thread, 0);
            askThread(thread, 1);
        }
        for (int x = 0; x <= 3; x++) {
            askThing(x, 0);
            askThing(x, 1);
        }
        for (int i = 0; i <= 2; i++) {
            int k = i;
            ask("place(2, " + k + ")", () -> twins.box.place(2, k), () -> twins.plain.place(2, k));
        }
    }

    private void askValue(int thread, int k, int what) {
        ask("value(" + thread + ", " + k + ", " + what + ")", () -> twins.box.value(thread, k, what),
                () -> twins.plain.value(thread, k, what));
    }

    private void askThread(int thread, int what) {
        ask("thread(" + thread + ", " + what + ")", () -> twins.box.thread(thread, what),
                () -> twins.plain.thread(thread, what));
        waiting += what == 1 && twins.plain.thread(thread, what) == 2 ? 1 : 0;
    }

    private void askThing(int x, int what) {
        ask("thing(" + x + ", " + what + ")", () -> twins.box.thing(x, what), () -> twins.plain.thing(x, what));
    }

    private void askPlaces(int s) {
        for (int what = 0; what <= 5; what++) {
            int w = what;
            ask("step(" + s + ", " + w + ")", () -> twins.box.step(s, w), () -> twins.plain.step(s, w));
        }
        woken += twins.plain.step(s, 2) == WAIT && twins.plain.step(s, 5) == 1 ? 1 : 0;
        for (int place : new int[] {0, 1, GATE_CELL, FIRST_ROW_PLACE, FIRST_ROW_PLACE + 1}) {
            ask("last(" + place + ", " + s + ")", () -> twins.box.last(place, s), () -> twins.plain.last(place, s));
            ask("next(" + place + ", " + s + ")", () -> twins.box.next(place, s), () -> twins.plain.next(place, s));
        }
    }

    private void askPairs(int t) {
        for (int from = 0; from < t; from++) {
            int s = from;
            ask("ahead(" + s + ", " + t + ")", () -> twins.box.ahead(s, t), () -> twins.plain.ahead(s, t));
            boolean others = twins.plain.step(s, 0) != twins.plain.step(t, 0);
            aheadOfOthers += others && twins.plain.ahead(s, t) == 1 ? 1 : 0;
            ask("differ(" + s + ", " + t + ")", () -> twins.box.differ(s, t), () -> twins.plain.differ(s, t));
        }
    }

    private void askSpans(int cell, int v) {
        int count = twins.plain.when(cell, v, 0, 0);
        laterSpans += Math.max(0, count - 1);
        for (int k = 0; k <= count; k++) {
            int i = k;
            for (int what = 0; what <= 2; what++) {
                int w = what;
                ask("when(" + cell + ", " + v + ", " + i + ", " + w + ")", () -> twins.box.when(cell, v, i, w),
                        () -> twins.plain.when(cell, v, i, w));
            }
        }
    }

    private void askRaces() {
        int races = twins.plain.race(0, 0);
        racing += races;
        for (int k = 0; k <= races && !twins.wrong; k++) {
            int i = k;
            for (int what = 0; what <= 3; what++) {
                int w = what;
                ask("race(" + i + ", " + w + ")", () -> twins.box.race(i, w), () -> twins.plain.race(i, w));
            }
        }
    }
}
