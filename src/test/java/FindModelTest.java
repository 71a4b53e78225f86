/**
 * Promises 26 and 27, held against PlainBox: programs of flags that FAIL only where THREADS change at the right steps,
 * so that many are FOUND with one CHANGE, and with two. By chance alone, as in ModelTest, such ones hardly come.
 */
public final class FindModelTest {
    private static final int BOXES = 1000;
    private static final int SET = 0;
    private static final int GET = 1;
    private static final int PUT = 2;
    private static final int GO = 6;
    private static final int UNLESS = 7;
    private static final int LOCK = 11;
    private static final int TAKE = 12;
    private static final int LEAVE = 13;
    private static final int INPUT = 16;
    private static final int START = 17;
    private static final int FAIL = 18;
    private static final int LOCK_CELL = 9;
    private static final int FLAGS = 3;

    private final Twins twins;
    private final int[] lengths = new int[4];
    private boolean hasLock;

    private FindModelTest(Due due, int number) {
        twins = new Twins(due, number);
    }

    public static void main(String[] args) {
        Due due = new Due();
        int boxes = args.length > 0 ? Integer.parseInt(args[0]) : BOXES;
        int[] found = new int[4];
        for (int k = 0; k < boxes; k++) {
            FindModelTest test = new FindModelTest(due, k);
            test.writeProgram();
            test.findAll();
            found[test.twins.plain.found(0) < 0 ? 3 : test.twins.plain.found(0)]++;
        }
        System.out.println("FOUND without a CHANGE: " + found[0] + ", with one: " + found[1] + ", with two: " + found[2]
                + ", none: " + found[3]);
        for (int count : found) {
            due.is("at least one of 30 boxes is so", count >= boxes / 30 ? 1 : 0, 1);
        }
        due.close();
    }

    private void code(int thread, int op, int a, int b) {
        twins.code(thread, op, a, b, 0);
        lengths[thread]++;
    }

    private void writeProgram() {
        hasLock = twins.random(3) == 0;
        int threads = 2 + twins.random(3);
        if (hasLock) {
            code(0, LOCK, 3, twins.random(2));
            code(0, PUT, LOCK_CELL, 3);
        }
        for (int thread = 1; thread < threads; thread++) {
            code(0, START, thread, 0);
        }
        for (int thread = 0; thread < threads; thread++) {
            for (int k = 1 + twins.random(threads == 2 ? 3 : 2); k > 0; k--) {
                writePiece(thread);
            }
        }
        if (twins.random(20) == 0) {
            code(threads - 1, GO, 0, 0);
        }
        if (twins.random(4) == 0) {
            twins.check("input(1)", () -> twins.box.input(1), () -> twins.plain.input(1));
        }
        if (twins.random(4) == 0) {
            twins.turn(1, 1 + twins.random(4));
        }
    }

    private void writePiece(int thread) {
        int flag = twins.random(FLAGS);
        switch (twins.random(8)) {
            case 0:
                failsWith(thread, flag, flag);
                break;
            case 1:
            case 2:
                failsWith(thread, flag, twins.random(FLAGS));
                break;
            case 3:
                passesOn(thread, flag, twins.random(FLAGS));
                break;
            case 4:
                if (hasLock) {
                    guarded(thread, flag);
                } else {
                    raises(thread, flag);
                }
                break;
            case 5:
                if (twins.random(4) == 0) {
                    code(thread, INPUT, 1, 0);
                }
                raises(thread, flag);
                break;
            default:
                raises(thread, flag);
        }
    }

    /** For a while the flag is 1. */
    private void raises(int thread, int flag) {
        code(thread, SET, 0, 1);
        code(thread, PUT, flag, 0);
        code(thread, SET, 0, 0);
        code(thread, PUT, flag, 0);
    }

    /** It FAILS if both flags are 1, each when it is looked at. */
    private void failsWith(int thread, int flag, int other) {
        int behind = lengths[thread] + 5;
        code(thread, GET, 0, flag);
        code(thread, UNLESS, 0, behind);
        code(thread, GET, 0, other);
        code(thread, UNLESS, 0, behind);
        code(thread, FAIL, 0, twins.random(10));
    }

    /** Once it has seen one flag it leaves another one at 1. */
    private void passesOn(int thread, int flag, int other) {
        int behind = lengths[thread] + 3;
        code(thread, GET, 0, flag);
        code(thread, UNLESS, 0, behind);
        code(thread, PUT, other, 0);
    }

    private void guarded(int thread, int flag) {
        code(thread, GET, 3, LOCK_CELL);
        code(thread, TAKE, 3, 0);
        raises(thread, flag);
        code(thread, LEAVE, 3, 0);
    }

    private void findAll() {
        int few = 2 + twins.random(30);
        for (int changes = 0; changes <= 2; changes++) {
            find(changes, 1);
            find(changes, few);
            find(changes, 100);
        }
        aroundTheHit();
        find(2, 100);
    }

    /** With as many runs as it needs the same one is FOUND, with one fewer none is. */
    private void aroundTheHit() {
        int number = twins.plain.find(2, 100);
        if (number > 1) {
            find(2, number - 1);
            find(2, number);
        }
    }

    private void find(int changes, int runs) {
        twins.check("find(" + changes + ", " + runs + ")", () -> twins.box.find(changes, runs),
                () -> twins.plain.find(changes, runs));
        for (int k = 0; k <= 6; k++) {
            int what = k;
            twins.check("found(" + what + ")", () -> twins.box.found(what), () -> twins.plain.found(what));
        }
    }
}
