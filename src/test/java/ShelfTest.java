/** Promises 28 to 33: SHELVES. */
public final class ShelfTest {
    private static final Due due = new Due();

    public static void main(String[] args) {
        keepThings();
        keepRows();
        keepRefusals();
        makes();
        elements();
        copies();
        copyRefusals();
        weights();
        tosses();
        shelvesOutliveRuns();
        due.close();
    }

    // THINGS: 0 ROW of 2, 1 LOCK, 2 GATE, 3 ROW of 0.
    private static ReplayBox filled() {
        return Programs.ran("SET 1 2; ROW 0 1; LOCK 2; LOCK 3 1; PUT 0 0; PUT 11 1; START 1; SET 1 0; ROW 0 1; SET 1 -3; PUT 4 1",
                "SET 0 1; SET 0 2");
    }

    private static void keepThings() {
        ReplayBox box = filled();
        due.is("keep(0, 1, 3)", box.keep(0, 1, 3), 0);
        due.is("keep(7, 1, 1)", box.keep(7, 1, 1), 0);
        due.is("weight(0)", box.weight(0), 4);
        due.is("weight(7)", box.weight(7), 102);
        due.is("keep(7, 0, 99)", box.keep(7, 0, 99), 0);
        due.is("nothing is held there", box.weight(7), -11);
        due.is("keep(7, 0, 0) again", box.keep(7, 0, 0), 0);
        box.to(0);
        due.is("a THING of the run's end, not of THE VIEW", box.keep(1, 1, 0), 0);
        due.is("it weighs", box.weight(1), 21);
        due.is("THE VIEW stays", box.thing(0, 0), -1);
    }

    private static void keepRows() {
        ReplayBox box = filled();
        due.is("keep(2, 2, -9)", box.keep(2, 2, -9), 0);
        int steps = box.told(1);
        due.is("steps", steps, 13);
        for (int i = 0; i < steps; i++) {
            due.is("THREAD of step " + (i + 1), box.element(2, i), i < 11 ? 0 : 1);
        }
        due.state("there is no step 14", () -> box.element(2, 13));
        box.to(0);
        due.is("keep(3, 3, 77)", box.keep(3, 3, 77), 0);
        int[] want = {0, 0, 0, 0, -3, 0, 0, 0, 0, 0, 0, 2};
        for (int i = 0; i < 12; i++) {
            due.is("CELL " + i, box.element(3, i), want[i]);
        }
        due.state("there is no CELL 12", () -> box.element(3, 12));
        ReplayBox many = Programs.ran("START 1; GO 1", "SET 0 1");
        many.keep(0, 2, 0);
        due.is("the 60th step", many.element(0, 59), 0);
        due.state("the first 60 steps are all", () -> many.element(0, 60));
        ReplayBox none = new ReplayBox();
        none.run();
        due.is("a ROW of no steps", none.keep(0, 2, 0), 0);
        due.state("it has no place", () -> none.element(0, 0));
        due.is("but it is one", none.copy(0, 0, 0, 0, 0), 0);
        ReplayBox things = Programs.box("LOCK 1; LOCK 0; PUT 0 0");
        things.cell(0, 9);
        things.run();
        things.keep(0, 3, 0);
        due.is("0 for THINGS", things.element(0, 0), 0);
    }

    private static void keepRefusals() {
        ReplayBox box = filled();
        due.is("SHELF -1", box.keep(-1, 1, 0), -1);
        due.is("SHELF 8", box.keep(8, 1, 0), -1);
        due.is("what -1", box.keep(0, -1, 0), -1);
        due.is("what 4", box.keep(0, 4, 0), -1);
        due.is("THING 4", box.keep(0, 1, 4), -1);
        due.is("THING -1", box.keep(0, 1, -1), -1);
        due.is("refused ones keep nothing", box.weight(0), -11);
        box.keep(0, 1, 1);
        box.keep(0, 1, 4);
        due.is("refused ones change nothing", box.weight(0), 102);
        ReplayBox fresh = new ReplayBox();
        for (int what = 0; what <= 3; what++) {
            due.is("keep(0, " + what + ", 0) without a run", fresh.keep(0, what, 0), -1);
        }
    }

    private static void makes() {
        ReplayBox box = new ReplayBox();
        due.is("make(0, 2, 60)", box.make(0, 2, 60), 0);
        due.is("make(7, 3, 60)", box.make(7, 3, 60), 0);
        due.is("make(1, 2, 0)", box.make(1, 2, 0), 0);
        due.is("its last byte", box.element(0, 59), 0);
        due.is("its last int", box.element(7, 59), 0);
        due.is("make(0, 2, 61)", box.make(0, 2, 61), -1);
        due.is("make(0, 1, 5)", box.make(0, 1, 5), -1);
        due.is("make(0, 4, 5)", box.make(0, 4, 5), -1);
        due.is("make(-1, 2, 5)", box.make(-1, 2, 5), -1);
        due.is("make(8, 2, 5)", box.make(8, 2, 5), -1);
        due.is("make(0, 2, -1)", box.make(0, 2, -1), -14);
        due.is("make(0, 3, least)", box.make(0, 3, Integer.MIN_VALUE), -14);
        due.is("-1 ahead of -14, by SHELF", box.make(8, 2, -1), -1);
        due.is("-1 ahead of -14, by what", box.make(0, 0, -1), -1);
        due.is("refused ones change nothing", box.element(0, 59), 0);
    }

    private static void elements() {
        ReplayBox box = filled();
        due.argument("SHELF -1", () -> box.element(-1, 0));
        due.argument("SHELF 8", () -> box.element(8, 99));
        due.state("nothing is held", () -> box.element(0, 0));
        box.keep(0, 1, 0);
        due.state("a THING that is a ROW is no such ROW", () -> box.element(0, 0));
        box.keep(0, 1, 1);
        due.state("a LOCK is no ROW", () -> box.element(0, 0));
        box.make(0, 3, 2);
        due.is("element(0, 1)", box.element(0, 1), 0);
        due.state("place 2", () -> box.element(0, 2));
        due.state("place -1", () -> box.element(0, -1));
        due.state("place of the largest int", () -> box.element(0, Integer.MAX_VALUE));
    }

    // CELLS 0 to 11 hold 1 to 12.
    private static ReplayBox counted() {
        ReplayBox box = new ReplayBox();
        for (int k = 0; k < 12; k++) {
            box.cell(k, k + 1);
        }
        box.run();
        box.keep(0, 3, 0);
        return box;
    }

    private static int[] all(ReplayBox box, int d, int length) {
        int[] row = new int[length];
        for (int i = 0; i < length; i++) {
            row[i] = box.element(d, i);
        }
        return row;
    }

    private static void copies() {
        ReplayBox box = counted();
        box.make(1, 3, 5);
        due.is("copy(0, 3, 1, 1, 3)", box.copy(0, 3, 1, 1, 3), 3);
        due.rows("what came", all(box, 1, 5), 0, 4, 5, 6, 0);
        due.is("copy of none at the ends", box.copy(0, 12, 1, 5, 0), 0);
        due.is("forward onto itself", box.copy(0, 0, 0, 2, 10), 10);
        due.rows("as they were before", all(box, 0, 12), 1, 2, 1, 2, 3, 4, 5, 6, 7, 8, 9, 10);
        due.is("back onto itself", box.copy(0, 2, 0, 0, 10), 10);
        due.rows("as they were before", all(box, 0, 12), 1, 2, 3, 4, 5, 6, 7, 8, 9, 10, 9, 10);
        due.is("all of it", box.copy(0, 0, 0, 0, 12), 12);
        ReplayBox bytes = filled();
        bytes.keep(0, 2, 0);
        bytes.make(1, 2, 4);
        due.is("bytes", bytes.copy(0, 9, 1, 0, 4), 4);
        due.rows("what came", all(bytes, 1, 4), 0, 0, 1, 1);
        bytes.keep(2, 2, 0);
        bytes.copy(1, 2, 0, 0, 2);
        due.is("a SHELF is its own", bytes.element(2, 0), 0);
        due.is("the one copied to", bytes.element(0, 0), 1);
    }

    private static void copyRefusals() {
        ReplayBox box = filled();
        box.make(0, 2, 4);
        box.make(1, 3, 4);
        box.make(2, 2, 6);
        box.keep(3, 1, 0);
        due.is("SHELF -1", box.copy(-1, 0, 0, 0, 0), -1);
        due.is("SHELF 8", box.copy(0, 0, 8, 0, 0), -1);
        due.is("nothing there", box.copy(0, 0, 4, 0, 0), -11);
        due.is("nothing here", box.copy(4, 0, 0, 0, 0), -11);
        due.is("-1 ahead of -11", box.copy(4, 0, 8, 0, 0), -1);
        due.is("-11 ahead of -12", box.copy(3, 0, 4, 0, 0), -11);
        due.is("bytes to ints", box.copy(0, 0, 1, 0, 0), -12);
        due.is("ints to bytes", box.copy(1, 0, 0, 0, 0), -12);
        due.is("from a THING", box.copy(3, 0, 0, 0, 0), -12);
        due.is("to a THING", box.copy(0, 0, 3, 0, 0), -12);
        due.is("a THING to itself", box.copy(3, 0, 3, 0, 0), -12);
        due.is("-12 ahead of -13", box.copy(0, -1, 1, 0, 0), -12);
        int[][] beyond = {{-1, 0, 1}, {0, -1, 1}, {0, 0, -1}, {0, 0, 5}, {1, 0, 4}, {4, 0, 1}, {5, 0, 0}, {0, 7, 0},
            {0, 6, 1}, {0, 3, 4}, {Integer.MAX_VALUE, 0, 1}, {0, Integer.MAX_VALUE, 1}, {1, 1, Integer.MAX_VALUE},
            {Integer.MAX_VALUE, Integer.MAX_VALUE, Integer.MAX_VALUE}, {0, 0, Integer.MIN_VALUE}};
        for (int[] b : beyond) {
            due.is("copy(0, " + b[0] + ", 2, " + b[1] + ", " + b[2] + ")", box.copy(0, b[0], 2, b[1], b[2]), -13);
        }
        due.is("at both ends", box.copy(0, 0, 2, 2, 4), 4);
    }

    private static void weights() {
        ReplayBox box = filled();
        int[] want = {21, 102, 206, 4};
        for (int k = 0; k < want.length; k++) {
            box.keep(k, 1, k);
            due.is("weight of THING " + k, box.weight(k), want[k]);
        }
        box.keep(4, 2, 0);
        box.make(5, 3, 1);
        due.is("weight of bytes", box.weight(4), -12);
        due.is("weight of ints", box.weight(5), -12);
        due.is("weight of nothing", box.weight(6), -11);
        due.is("weight(-1)", box.weight(-1), -1);
        due.is("weight(8)", box.weight(8), -1);
        ReplayBox gate = Programs.ran("LOCK 0 1; SET 1 16; ROW 0 1");
        gate.keep(0, 1, 0);
        gate.keep(1, 1, 1);
        due.is("weight of GATE 0", gate.weight(0), 202);
        due.is("weight of ROW 1 of 16", gate.weight(1), 162);
    }

    private static void tosses() {
        ReplayBox box = filled();
        int[] want = {-15, 1, 2, -15};
        for (int k = 0; k < want.length; k++) {
            box.keep(k, 1, k);
            due.is("toss of THING " + k, box.toss(k), want[k]);
        }
        box.keep(4, 2, 0);
        box.make(5, 3, 1);
        due.is("toss of bytes", box.toss(4), -12);
        due.is("toss of ints", box.toss(5), -12);
        due.is("toss of nothing", box.toss(6), -11);
        due.is("toss(-1)", box.toss(-1), -1);
        due.is("toss(8)", box.toss(8), -1);
        ReplayBox lock = Programs.ran("LOCK 0");
        lock.keep(0, 1, 0);
        due.is("toss of LOCK 0", lock.toss(0), 0);
        due.is("it is still held", lock.weight(0), 101);
    }

    private static void shelvesOutliveRuns() {
        ReplayBox box = filled();
        box.keep(0, 1, 2);
        box.keep(1, 2, 0);
        box.clear(0);
        box.run();
        due.is("the THING stays", box.weight(0), 206);
        due.is("the ROW stays", box.element(1, 12), 1);
        due.is("but it is no THING of this run", box.keep(2, 1, 2), -1);
    }
}
