/**
 * Promises 23 and 24, held against PlainBox for every pair of steps: THREADS that share a GATE, a LOCK, a ROW and
 * CELLS, by TURNS of few steps, so that what is AHEAD goes by LEAVE and TAKE, WAIT and WORD, and START.
 */
public final class OrderModelTest {
    private static final int BOXES = 1000;
    private static final int MOST_CALLS = 512;
    private static final int SET = 0;
    private static final int GET = 1;
    private static final int PUT = 2;
    private static final int ROW = 8;
    private static final int READ = 9;
    private static final int WRITE = 10;
    private static final int LOCK = 11;
    private static final int TAKE = 12;
    private static final int LEAVE = 13;
    private static final int WAIT = 14;
    private static final int WORD = 15;
    private static final int START = 17;
    private static final int GATE_CELL = 9;
    private static final int LOCK_CELL = 10;
    private static final int ROW_CELL = 11;

    private static int woken;
    private static int aheadOfOthers;
    private static int racing;

    private final Due due;
    private final int number;
    private Twins twins;

    private OrderModelTest(Due due, int number) {
        this.due = due;
        this.number = number;
    }

    public static void main(String[] args) {
        Due due = new Due();
        int boxes = args.length > 0 ? Integer.parseInt(args[0]) : BOXES;
        for (int k = 0; k < boxes; k++) {
            OrderModelTest test = new OrderModelTest(due, k);
            test.askAll();
        }
        System.out.println("steps behind a WAIT: " + woken + ", AHEAD of another THREAD's: " + aheadOfOthers
                + ", RACES: " + racing);
        due.is("many THREADS were WOKEN", woken > boxes / 3 ? 1 : 0, 1);
        due.is("many steps are AHEAD of another THREAD's", aheadOfOthers > boxes ? 1 : 0, 1);
        due.is("many RACE", racing > boxes ? 1 : 0, 1);
        due.close();
    }

    // A box has only so many calls: where they are over a new one is made by the same row of numbers.
    private void again() {
        twins = new Twins(due, number);
        writeProgram();
        twins.run();
    }

    private void mayAsk() {
        if (twins.history.size() >= MOST_CALLS) {
            again();
        }
    }

    private void code(int thread, int op, int a, int b, int c) {
        twins.code(thread, op, a, b, c);
    }

    private void writeProgram() {
        code(0, LOCK, 0, 1, 0);
        code(0, PUT, GATE_CELL, 0, 0);
        code(0, LOCK, 1, 0, 0);
        code(0, PUT, LOCK_CELL, 1, 0);
        code(0, SET, 3, 2, 0);
        code(0, ROW, 2, 3, 0);
        code(0, PUT, ROW_CELL, 2, 0);
        int threads = 2 + twins.random(3);
        for (int thread = 1; thread < threads; thread++) {
            // The last one may be STARTED by the one ahead of it.
            code(thread == 3 ? twins.random(3) : 0, START, thread, 0, 0);
        }
        for (int thread = 0; thread < threads; thread++) {
            code(thread, GET, 0, GATE_CELL, 0);
            code(thread, GET, 1, LOCK_CELL, 0);
            for (int k = 3; k > 0; k--) {
                writePiece(thread);
            }
        }
        twins.turn(0, 9 + threads);
        for (int thread = 1; thread < threads; thread += 2) {
            twins.turn(thread, 4 + twins.random(4));
        }
        for (int k = twins.random(25); k > 0; k--) {
            twins.turn(twins.random(threads), 1 + twins.random(4));
        }
    }

    // Those of odd number WAIT, the others have the WORD, so that most who are ASLEEP are WOKEN.
    private void writePiece(int thread) {
        switch (twins.random(6)) {
            case 0:
                code(thread, TAKE, 1, 0, 0);
                touch(thread);
                code(thread, LEAVE, 1, 0, 0);
                break;
            case 1:
            case 2:
            case 3:
                code(thread, TAKE, 0, 0, 0);
                code(thread, thread % 2 == 1 ? WAIT : WORD, 0, 0, 0);
                touch(thread);
                code(thread, LEAVE, 0, 0, 0);
                break;
            default:
                touch(thread);
                touch(thread);
        }
    }

    private void touch(int thread) {
        switch (twins.random(6)) {
            case 0:
            case 1:
                code(thread, GET, 3, twins.random(2), 0);
                break;
            case 2:
            case 3:
                code(thread, PUT, twins.random(2), 3, 0);
                break;
            default:
                touchRow(thread);
        }
    }

    private void touchRow(int thread) {
        code(thread, GET, 2, ROW_CELL, 0);
        code(thread, SET, 3, twins.random(2), 0);
        if (twins.random(2) == 0) {
            code(thread, READ, 3, 2, 3);
        } else {
            code(thread, WRITE, 2, 3, 3);
        }
    }

    private void askAll() {
        again();
        int steps = twins.plain.told(1);
        for (int t = 1; t <= steps && !twins.wrong; t++) {
            woken += twins.plain.step(t, 2) == WAIT && twins.plain.step(t, 5) == 1 ? 1 : 0;
            for (int s = 1; s < t; s++) {
                askAhead(s, t);
            }
        }
        int races = twins.plain.race(0, 0);
        racing += races;
        for (int i = 0; i <= races && !twins.wrong; i++) {
            askRace(i);
        }
    }

    private void askAhead(int s, int t) {
        mayAsk();
        twins.check("ahead(" + s + ", " + t + ")", () -> twins.box.ahead(s, t), () -> twins.plain.ahead(s, t));
        boolean others = twins.plain.step(s, 0) != twins.plain.step(t, 0);
        aheadOfOthers += others && twins.plain.ahead(s, t) == 1 ? 1 : 0;
    }

    private void askRace(int i) {
        for (int k = 0; k <= 3; k++) {
            int what = k;
            mayAsk();
            twins.check("race(" + i + ", " + what + ")", () -> twins.box.race(i, what),
                    () -> twins.plain.race(i, what));
        }
    }
}
