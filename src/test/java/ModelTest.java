/** ReplayBox held against PlainBox: many programs and calls, made by a fixed row of numbers, so each time the same. */
public final class ModelTest {
    private static final int BOXES = 1500;
    private static final int MOST_CALLS = 512;

    private final Twins twins;
    private final ReplayBox box;
    private final PlainBox plain;

    private ModelTest(Due due, int number) {
        twins = new Twins(due, number);
        box = twins.box;
        plain = twins.plain;
    }

    public static void main(String[] args) {
        Due due = new Due();
        int boxes = args.length > 0 ? Integer.parseInt(args[0]) : BOXES;
        int[] overs = new int[4];
        int[] ends = new int[5];
        int found = 0;
        int racing = 0;
        for (int k = 0; k < boxes; k++) {
            ModelTest test = new ModelTest(due, k);
            test.runAll();
            if (test.plain.told(0) >= 0) {
                overs[test.plain.told(0)]++;
                racing += test.plain.race(0, 0) > 0 ? 1 : 0;
            }
            if (test.plain.ended() >= 0) {
                ends[test.plain.ended()]++;
            }
            found += test.plain.found(0) > 0 ? 1 : 0;
        }
        // A test that never reaches these would look at little.
        System.out.println("over: " + overs[0] + " DONE, " + overs[1] + " STUCK, " + overs[2] + " FAILED, " + overs[3]
                + " LONG; " + racing + " with RACES, " + found + " FOUND by CHANGES");
        for (int over : overs) {
            due.is("some runs are over so", over > 0 ? 1 : 0, 1);
        }
        for (int end : ends) {
            due.is("some play() ended so", end > 0 ? 1 : 0, 1);
        }
        due.is("some RACE", racing > 0 ? 1 : 0, 1);
        due.is("some are FOUND", found > 0 ? 1 : 0, 1);
        due.close();
    }

    private int random(int below) {
        return twins.random(below);
    }

    private int about(int least, int most) {
        return twins.about(least, most);
    }

    private void check(String call, Due.Call got, Due.Call want) {
        twins.check(call, got, want);
    }

    private boolean mayAsk(int mostCalls) {
        return twins.history.size() < mostCalls && !twins.wrong;
    }

    private void runAll() {
        while (mayAsk(MOST_CALLS - 130)) {
            writeProgram();
            for (int k = random(4); k > 0; k--) {
                ask();
            }
            twins.run();
            for (int k = 60 + random(160); k > 0 && mayAsk(MOST_CALLS); k--) {
                ask();
            }
        }
    }

    private void writeProgram() {
        for (int thread = 0; thread < 4; thread++) {
            int t = thread;
            check("clear(" + t + ")", () -> box.clear(t), () -> plain.clear(t));
        }
        check("freely()", box::freely, plain::freely);
        if (random(9) != 0) {
            shareThings();
        }
        for (int thread = random(30) == 0 ? 0 : 1; thread < 4; thread++) {
            if (random(3) > 0) {
                code(0, 17, thread, 0, 0);
            }
        }
        for (int thread = 0; thread < 4; thread++) {
            for (int k = 1 + random(4); k > 0; k--) {
                writePiece(thread);
            }
        }
        for (int k = random(7); k > 0; k--) {
            input();
        }
        for (int k = random(6); k > 0; k--) {
            turn();
        }
    }

    // CELL 0 gets a GATE, CELL 1 a LOCK, CELL 2 a ROW.
    private void shareThings() {
        code(0, 11, 0, 1, 0);
        code(0, 2, 0, 0, 0);
        code(0, 11, 0, 0, 0);
        code(0, 2, 1, 0, 0);
        code(0, 0, 1, random(9) == 0 ? about(0, 16) : 4, 0);
        code(0, 8, 0, 1, 0);
        code(0, 2, 2, 0, 0);
    }

    private void code(int thread, int op, int a, int b, int c) {
        twins.code(thread, op, a, b, c);
    }

    private void writePiece(int thread) {
        int lock = random(2);
        switch (random(16)) {
            case 0:
                code(thread, 1, 0, lock, 0);
                code(thread, 12, 0, 0, 0);
                writeCount(thread);
                code(thread, 13, 0, 0, 0);
                break;
            case 1:
                code(thread, 1, 0, 0, 0);
                code(thread, 12, 0, 0, 0);
                code(thread, 14, 0, 0, 0);
                code(thread, 13, 0, 0, 0);
                break;
            case 2:
                code(thread, 1, 0, 0, 0);
                code(thread, 12, 0, 0, 0);
                code(thread, 15, 0, 0, 0);
                code(thread, 13, 0, 0, 0);
                break;
            case 3:
                code(thread, 1, 3, 2, 0);
                code(thread, 0, 1, random(4), 0);
                code(thread, 9, 2, 3, 1);
                code(thread, 10, 3, 1, 1);
                break;
            case 4:
                code(thread, 1, 1, 5, 0);
                code(thread, 7, 1, random(24), 0);
                if (random(3) == 0) {
                    code(thread, 18, 0, random(10), 0);
                }
                break;
            case 5:
                code(thread, 6, random(20), 0, 0);
                break;
            case 6:
                code(thread, 16, random(4), 0, 0);
                code(thread, 2, 4 + random(4), random(4), 0);
                break;
            case 7:
                code(thread, random(3) == 0 ? 0 : about(0, 19), about(0, 11), about(0, 11), about(0, 3));
                break;
            default:
                writeCount(thread);
        }
    }

    private void writeCount(int thread) {
        int cell = 4 + random(3);
        code(thread, 1, 1, cell, 0);
        code(thread, 0, 2, random(3), 0);
        code(thread, 3 + random(3), 1, 2, 0);
        code(thread, 2, cell, 1, 0);
    }

    private void input() {
        int v = random(3);
        check("input(" + v + ")", () -> box.input(v), () -> plain.input(v));
    }

    private void turn() {
        int thread = about(0, 3);
        int steps = random(3) == 0 ? about(1, 100) : 1 + random(9);
        twins.turn(thread, steps);
    }

    private void ask() {
        int steps = Math.max(plain.told(1), 0);
        int s = about(0, steps);
        int t = about(0, steps);
        switch (random(7)) {
            case 0:
                askOfRun(s);
                break;
            case 1:
                askOfRecord();
                break;
            case 2:
            case 3:
                askOfView(s);
                break;
            case 4:
            case 5:
                askOfHistory(s, t);
                break;
            default:
                askOfShelves();
        }
    }

    private void askOfRun(int s) {
        int what = about(0, 7);
        int i = about(0, Math.max(0, plain.told(5)));
        int w = about(0, 5);
        int x = about(0, 1);
        check("told(" + what + ")", () -> box.told(what), () -> plain.told(what));
        check("change(" + i + ", " + x + ")", () -> box.change(i, x), () -> plain.change(i, x));
        check("step(" + s + ", " + w + ")", () -> box.step(s, w), () -> plain.step(s, w));
    }

    private void askOfRecord() {
        int n = about(0, Math.max(0, plain.told(5)));
        int m = about(0, Math.max(0, plain.told(6)));
        int what = about(0, 6);
        switch (random(16)) {
            case 0:
                int thread = about(0, 3);
                check("clear(" + thread + ")", () -> box.clear(thread), () -> plain.clear(thread));
                writePiece(random(4));
                break;
            case 1:
                int cell = about(0, 11);
                int v = random(3);
                check("cell(" + cell + ", " + v + ")", () -> box.cell(cell, v), () -> plain.cell(cell, v));
                break;
            case 2:
                writePiece(random(4));
                break;
            case 3:
                int changes = about(0, 2);
                int runs = random(2) == 0 ? about(1, 100) : 1 + random(12);
                check("find(" + changes + ", " + runs + ")", () -> box.find(changes, runs),
                        () -> plain.find(changes, runs));
                break;
            case 4:
            case 5:
            case 6:
                check("found(" + what + ")", () -> box.found(what), () -> plain.found(what));
                break;
            default:
                check("play(" + n + ", " + m + ")", () -> box.play(n, m), () -> plain.play(n, m));
                check("ended()", box::ended, plain::ended);
        }
    }

    private void askOfView(int s) {
        int thread = about(-1, 3);
        int k = thread == -1 ? about(0, 11) : about(0, 3);
        int what = about(0, 1);
        int x = about(0, Math.max(0, plain.told(4)));
        int i = about(0, 4);
        switch (random(5)) {
            case 0:
                check("to(" + s + ")", () -> box.to(s), () -> plain.to(s));
                break;
            case 1:
                int n = about(0, 5);
                check("back(" + n + ")", () -> box.back(n), () -> plain.back(n));
                break;
            case 2:
                check("thing(" + x + ", " + what + ")", () -> box.thing(x, what), () -> plain.thing(x, what));
                check("place(" + x + ", " + i + ")", () -> box.place(x, i), () -> plain.place(x, i));
                break;
            default:
                check("value(" + thread + ", " + k + ", " + what + ")", () -> box.value(thread, k, what),
                        () -> plain.value(thread, k, what));
                check("thread(" + thread + ", " + what + ")", () -> box.thread(thread, what),
                        () -> plain.thread(thread, what));
        }
    }

    private void askOfHistory(int s, int t) {
        int place = random(3) == 0 ? 140 + about(0, 4) : about(0, 8);
        int cell = random(2) == 0 ? 4 + random(3) : about(0, 11);
        int v = about(0, 3);
        int i = about(0, 4);
        switch (random(6)) {
            case 0:
                check("last(" + place + ", " + s + ")", () -> box.last(place, s), () -> plain.last(place, s));
                break;
            case 1:
                check("next(" + place + ", " + s + ")", () -> box.next(place, s), () -> plain.next(place, s));
                break;
            case 2:
                int what = about(0, 2);
                check("when(" + cell + ", " + v + ", " + i + ", " + what + ")", () -> box.when(cell, v, i, what),
                        () -> plain.when(cell, v, i, what));
                break;
            case 3:
                check("ahead(" + s + ", " + t + ")", () -> box.ahead(s, t), () -> plain.ahead(s, t));
                break;
            case 4:
                int r = about(0, Math.max(0, plain.race(0, 0)));
                int w = about(0, 3);
                check("race(" + r + ", " + w + ")", () -> box.race(r, w), () -> plain.race(r, w));
                break;
            default:
                check("differ(" + s + ", " + t + ")", () -> box.differ(s, t), () -> plain.differ(s, t));
        }
    }

    private void askOfShelves() {
        int d = about(0, 7);
        int e = about(0, 7);
        int i = about(0, 12);
        int j = about(0, 12);
        switch (random(6)) {
            case 0:
                int k = about(0, Math.max(0, plain.told(4)));
                int what = about(0, 3);
                check("keep(" + d + ", " + what + ", " + k + ")", () -> box.keep(d, what, k), () -> plain.keep(d, what, k));
                break;
            case 1:
                int kind = about(2, 3);
                int length = random(2) == 0 ? about(0, 60) : random(20);
                check("make(" + d + ", " + kind + ", " + length + ")", () -> box.make(d, kind, length),
                        () -> plain.make(d, kind, length));
                break;
            case 2:
                check("element(" + d + ", " + i + ")", () -> box.element(d, i), () -> plain.element(d, i));
                break;
            case 3:
                int n = about(0, 8);
                check("copy(" + d + ", " + i + ", " + e + ", " + j + ", " + n + ")", () -> box.copy(d, i, e, j, n),
                        () -> plain.copy(d, i, e, j, n));
                break;
            case 4:
                check("weight(" + d + ")", () -> box.weight(d), () -> plain.weight(d));
                break;
            default:
                check("toss(" + d + ")", () -> box.toss(d), () -> plain.toss(d));
        }
    }
}
