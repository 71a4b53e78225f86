/** The sentences of the Terms on SHELVES and of promises 28 to 33. */
final class EdgesOfShelves {
    private static final int LEAST = Edges.LEAST;
    private static final int LARGEST = Edges.LARGEST;
    private static final int TERMS = Edges.TERMS;
    private static final int BYTES = 2;
    private static final int INTS = 3;
    private final Edges edge;

    private EdgesOfShelves(Edges edge) {
        this.edge = edge;
    }

    static void look(Edges edge) {
        EdgesOfShelves edges = new EdgesOfShelves(edge);
        edges.terms();
        edges.keep();
        edges.keepRefusals();
        edges.make();
        edges.element();
        edges.copy();
        edges.copyRefusals();
        edges.weight();
        edges.toss();
    }

    // THINGS 0 a ROW of 2, 1 a LOCK, 2 a GATE, 3 a ROW of 0.
    private static ReplayBox things() {
        return Programs.ran("SET 1 2; ROW 0 1; LOCK 2; LOCK 3 1; SET 1 0; ROW 0 1; START 3", "", "",
                "SET 0 1; SET 0 2");
    }

    // SHELVES: 0 to 3 THINGS 0 to 3, 4 four bytes, 5 four ints, 6 six bytes, 7 nothing.
    private static ReplayBox shelved() {
        ReplayBox box = things();
        for (int k = 0; k <= 3; k++) {
            box.keep(k, 1, k);
        }
        box.make(4, BYTES, 4);
        box.make(5, INTS, 4);
        box.make(6, BYTES, 6);
        return box;
    }

    private static int[] all(ReplayBox box, int d, int length) {
        int[] row = new int[length];
        for (int i = 0; i < length; i++) {
            row[i] = box.element(d, i);
        }
        return row;
    }

    private void terms() {
        edge.sentence(TERMS, "SHELVES 0 .. 7 each hold nothing (at first), a THING (of the run's end), a ROW of bytes or ints.");
        ReplayBox box = things();
        edge.all("weight(#) at first", -11, box::weight, 0, 1, 2, 3, 4, 5, 6, 7);
        edge.all("weight(#)", -1, box::weight, LEAST, -1, 8, LARGEST);
        for (int d = 0; d <= 7; d++) {
            edge.is("keep(" + d + ", 1, " + d % 4 + ")", box.keep(d, 1, d % 4), 0);
        }
        int[] weights = {21, 102, 206, 4};
        for (int d = 0; d <= 7; d++) {
            edge.is("weight(" + d + ")", box.weight(d), weights[d % 4]);
        }
        edge.is("a ROW of bytes instead", box.make(7, BYTES, 1), 0);
        edge.is("it is no THING", box.weight(7), -12);
        edge.is("a ROW of ints instead", box.make(0, INTS, 1), 0);
        edge.is("it is no THING, either", box.weight(0), -12);
        edge.is("SHELF 1 holds what it held", box.weight(1), 102);
        box.clear(0);
        box.run();
        edge.is("behind another run, too", box.weight(1), 102);

        edge.sentence(TERMS, "Their REFUSALS: -11 nothing is held where something is wanted; -12 it is of another kind; -13 a place that it doesn't have; -14 a size below 0; -15 a FAILURE that is none.");
        ReplayBox held = shelved();
        edge.is("nothing is held", held.toss(7), -11);
        edge.is("another kind", held.toss(4), -12);
        edge.is("a place that it doesn't have", held.copy(4, 4, 6, 0, 1), -13);
        edge.is("a size below 0", held.make(4, BYTES, -1), -14);
        edge.is("no FAILURE", held.toss(0), -15);
    }

    private void keep() {
        edge.sentence(28, "SHELF d gets: what = 0 nothing, 1 THING k,");
        ReplayBox box = things();
        edge.is("keep(0, 1, 0)", box.keep(0, 1, 0), 0);
        edge.is("keep(7, 1, 3)", box.keep(7, 1, 3), 0);
        edge.is("weight(0)", box.weight(0), 21);
        edge.is("weight(7)", box.weight(7), 4);
        edge.all("keep(7, 0, #)", 0, k -> box.keep(7, 0, k), LEAST, -1, 0, 4, LARGEST);
        edge.is("nothing is held", box.weight(7), -11);
        edge.is("SHELF 0 holds what it held", box.weight(0), 21);
        box.to(0);
        edge.is("of the run's end, not of THE VIEW", box.keep(7, 1, 3), 0);
        edge.is("THE VIEW is where it was", box.back(0), 0);
        ReplayBox most = Programs.ran("LOCK 0; GO 0");
        edge.is("THING 11", most.keep(0, 1, 11), 0);
        edge.is("its weight", most.weight(0), 112);

        edge.sentence(28, "2 a ROW of bytes: the THREADS of the first 60 steps,");
        edge.all("keep(1, 2, #)", 0, k -> box.keep(1, 2, k), LEAST, -1, 0, 60, LARGEST);
        edge.rows("of 9 steps", all(box, 1, 9), 0, 0, 0, 0, 0, 0, 0, 3, 3);
        edge.state("element(1, #) of 9", i -> box.element(1, i), 9, 59);
        ReplayBox none = Programs.ran("");
        edge.is("of no steps", none.keep(0, 2, 0), 0);
        edge.state("element(0, #) of none", i -> none.element(0, i), 0);
        edge.is("it is a ROW of bytes", none.copy(0, 0, 0, 0, 0), 0);
        for (int steps : new int[] {59, 60, 61}) {
            ReplayBox run = ofSteps(steps);
            run.keep(2, 2, 0);
            edge.is("steps", run.told(1), steps);
            edge.is("the THREAD of step 59 of " + steps, run.element(2, 58), 0);
            if (steps >= 60) {
                edge.is("the THREAD of step 60 of " + steps, run.element(2, 59), 1);
                edge.state("step 61 of " + steps + ": element(2, #)", i -> run.element(2, i), 60);
            } else {
                edge.state("step 60 of 59: element(2, #)", i -> run.element(2, i), 59);
            }
        }

        edge.sentence(28, "3 a ROW of ints: the NUMBERS that CELLS hold at the run's end (0 for THINGS): 0.");
        ReplayBox cells = Programs.box("LOCK 0; LOCK 0; PUT 5 0; SET 1 " + LEAST + "; PUT 0 1");
        cells.cell(5, 9);
        cells.cell(11, LARGEST);
        cells.run();
        cells.to(0);
        edge.all("keep(3, 3, #)", 0, k -> cells.keep(3, 3, k), LEAST, -1, 0, 12, LARGEST);
        edge.rows("its elements", all(cells, 3, 12), LEAST, 0, 0, 0, 0, 0, 0, 0, 0, 0, 0, LARGEST);
        edge.state("element(3, #)", i -> cells.element(3, i), 12);
        edge.is("THE VIEW is where it was", cells.back(0), 0);
    }

    // 59 steps of THREAD 0, then the rest of THREAD 1.
    private static ReplayBox ofSteps(int steps) {
        ReplayBox box = Programs.box("START 1; SET 0 18; SET 1 1; SET 2 1; LESS 0 1; UNLESS 0 7; GO 4; SET 3 1; "
                + "SET 3 1", "SET 0 1; ".repeat(steps - 59));
        box.run();
        return box;
    }

    private void keepRefusals() {
        edge.sentence(28, "-1 (without a run, too).");
        ReplayBox box = things();
        for (int what = 0; what <= 3; what++) {
            int w = what;
            edge.all("keep(#, " + w + ", 0)", -1, d -> box.keep(d, w, 0), LEAST, -1, 8, LARGEST);
        }
        edge.all("keep(0, #, 0)", -1, what -> box.keep(0, what, 0), LEAST, -1, 4, LARGEST);
        edge.all("keep(0, 1, #) of 4 THINGS", -1, k -> box.keep(0, 1, k), LEAST, -1, 4, 11, 12, LARGEST);
        edge.is("THING 0 of none", Programs.ran("").keep(0, 1, 0), -1);
        edge.is("THING 12 of 12", Programs.ran("LOCK 0; GO 0").keep(0, 1, 12), -1);
        ReplayBox fresh = Programs.box("LOCK 0");
        edge.all("without a run, keep(0, #, 0)", -1, what -> fresh.keep(0, what, 0), -1, 0, 1, 2, 3, 4);
        fresh.make(0, BYTES, 3);
        edge.is("without a run nothing comes on a SHELF", fresh.keep(0, 0, 0), -1);
        edge.is("it holds what it held", fresh.element(0, 2), 0);
    }

    private void make() {
        edge.sentence(29, "SHELF d gets a ROW of n bytes, or ints, 0 (what 2, 3; n up to 60): 0.");
        ReplayBox box = new ReplayBox();
        for (int what = BYTES; what <= INTS; what++) {
            for (int n : new int[] {0, 1, 59, 60}) {
                edge.is("make(7, " + what + ", " + n + ")", box.make(7, what, n), 0);
                for (int i = 0; i < n; i++) {
                    edge.is("element(7, " + i + ") of " + n, box.element(7, i), 0);
                }
                edge.state("element(7, #) of " + n, i -> box.element(7, i), -1, n);
            }
        }
        ReplayBox cells = Programs.box("");
        cells.cell(0, 5);
        cells.run();
        cells.keep(0, 3, 0);
        cells.make(0, INTS, 12);
        edge.is("a new ROW is of 0", cells.element(0, 0), 0);

        edge.sentence(29, "-1;");
        edge.all("make(#, 2, 5)", -1, d -> box.make(d, BYTES, 5), LEAST, -1, 8, LARGEST);
        edge.all("make(0, #, 5)", -1, what -> box.make(0, what, 5), LEAST, -1, 0, 1, 4, LARGEST);
        edge.all("make(0, 2, #)", -1, n -> box.make(0, BYTES, n), 61, LARGEST);
        edge.all("make(0, 3, #)", -1, n -> box.make(0, INTS, n), 61, LARGEST);
        edge.all("the SHELF ahead of the size, make(#, 2, -1)", -1, d -> box.make(d, BYTES, -1), -1, 8);
        edge.all("what ahead of the size, make(0, #, -1)", -1, what -> box.make(0, what, -1), 1, 4);
        edge.state("nothing came: element(0, #)", i -> box.element(0, i), 0);

        edge.sentence(29, "-14: n is below 0.");
        edge.all("make(0, 2, #)", -14, n -> box.make(0, BYTES, n), LEAST, -2, -1);
        edge.all("make(7, 3, #)", -14, n -> box.make(7, INTS, n), LEAST, -2, -1);
        edge.is("the ROW is still there", box.element(7, 59), 0);
        edge.is("0 is not below 0", box.make(7, INTS, 0), 0);
    }

    private void element() {
        edge.sentence(30, "Element i, from 0, of the ROW (of bytes, ints) on SHELF d.");
        ReplayBox box = things();
        box.keep(0, 2, 0);
        edge.is("the first byte", box.element(0, 0), 0);
        edge.is("the last byte", box.element(0, 8), 3);
        ReplayBox cells = Programs.box("");
        cells.cell(0, LEAST);
        cells.cell(11, LARGEST);
        cells.run();
        cells.keep(7, 3, 0);
        edge.is("the first int", cells.element(7, 0), LEAST);
        edge.is("the last int", cells.element(7, 11), LARGEST);

        edge.sentence(30, "IllegalArgumentException: no such SHELF;");
        edge.argument("element(#, 0)", d -> box.element(d, 0), LEAST, -1, 8, LARGEST);
        edge.argument("and no such place, element(#, -1)", d -> box.element(d, -1), -1, 8);

        edge.sentence(30, "IllegalStateException: nothing is held, it is no such ROW, or has no such place.");
        ReplayBox held = shelved();
        edge.state("nothing: element(7, #)", i -> held.element(7, i), LEAST, -1, 0, LARGEST);
        edge.state("a THING: element(#, 0)", d -> held.element(d, 0), 0, 1, 2, 3);
        edge.state("a THING that has such a place: element(0, #)", i -> held.element(0, i), 0, 1);
        edge.state("bytes: element(4, #)", i -> held.element(4, i), LEAST, -1, 4, LARGEST);
        edge.state("ints: element(5, #)", i -> held.element(5, i), LEAST, -1, 4, LARGEST);
        edge.is("the last of four bytes", held.element(4, 3), 0);
        edge.is("the last of four ints", held.element(5, 3), 0);
    }

    // SHELF 0: the ints 1 to 12.
    private static ReplayBox counted() {
        ReplayBox box = Programs.box("START 1; START 2; START 3", "SET 0 1", "SET 0 1", "SET 0 1");
        for (int k = 0; k < 12; k++) {
            box.cell(k, k + 1);
        }
        box.run();
        box.keep(0, 3, 0);
        return box;
    }

    private void copy() {
        edge.sentence(31, "n elements of the ROW on SHELF d, from place i, come to the ROW on SHELF e, from place j (as they all were before): n.");
        ReplayBox box = counted();
        box.make(7, INTS, 4);
        edge.is("all there is room for", box.copy(0, 0, 7, 0, 4), 4);
        edge.rows("ints", all(box, 7, 4), 1, 2, 3, 4);
        edge.is("up to both ends", box.copy(0, 10, 7, 2, 2), 2);
        edge.rows("ints", all(box, 7, 4), 1, 2, 11, 12);
        edge.is("one", box.copy(0, 11, 7, 0, 1), 1);
        edge.rows("ints", all(box, 7, 4), 12, 2, 11, 12);
        edge.is("none, at both ends", box.copy(0, 12, 7, 4, 0), 0);
        edge.is("none, at the first", box.copy(0, 0, 7, 0, 0), 0);
        edge.rows("the same ints", all(box, 7, 4), 12, 2, 11, 12);
        edge.is("forward onto itself", box.copy(0, 0, 0, 1, 11), 11);
        edge.rows("as they all were before", all(box, 0, 12), 1, 1, 2, 3, 4, 5, 6, 7, 8, 9, 10, 11);
        edge.is("back onto itself", box.copy(0, 1, 0, 0, 11), 11);
        edge.rows("as they all were before, too", all(box, 0, 12), 1, 2, 3, 4, 5, 6, 7, 8, 9, 10, 11, 11);
        edge.is("all onto itself", box.copy(0, 0, 0, 0, 12), 12);
        edge.rows("the same", all(box, 0, 12), 1, 2, 3, 4, 5, 6, 7, 8, 9, 10, 11, 11);
        // Its steps are of THREADS 0, 0, 0, 1, 2, 3.
        box.keep(1, 2, 0);
        box.make(2, BYTES, 60);
        edge.is("bytes", box.copy(1, 3, 2, 57, 3), 3);
        edge.is("byte 57", box.element(2, 57), 1);
        edge.is("byte 59", box.element(2, 59), 3);
        edge.is("a byte to the first place", box.copy(1, 5, 2, 0, 1), 1);
        edge.is("byte 0", box.element(2, 0), 3);
        edge.is("byte 1", box.element(2, 1), 0);
        edge.is("bytes forward onto themselves", box.copy(1, 2, 1, 3, 3), 3);
        edge.rows("as they all were before", all(box, 1, 6), 0, 0, 0, 0, 1, 2);
        box.make(3, BYTES, 60);
        edge.is("60 of 60", box.copy(2, 0, 3, 0, 60), 60);
        edge.is("the last one", box.element(3, 59), 3);
        box.copy(1, 0, 2, 57, 3);
        edge.is("one SHELF isn't another", box.element(3, 59), 3);
        box.make(4, BYTES, 0);
        edge.is("none of none", box.copy(4, 0, 4, 0, 0), 0);
    }

    private void copyRefusals() {
        ReplayBox box = shelved();
        edge.sentence(31, "-1;");
        edge.all("copy(#, 0, 4, 0, 0)", -1, d -> box.copy(d, 0, 4, 0, 0), LEAST, -1, 8, LARGEST);
        edge.all("copy(4, 0, #, 0, 0)", -1, e -> box.copy(4, 0, e, 0, 0), LEAST, -1, 8, LARGEST);
        edge.is("ahead of nothing", box.copy(7, 0, 8, 0, 0), -1);
        edge.is("ahead of nothing, the other way", box.copy(8, 0, 7, 0, 0), -1);
        edge.is("ahead of another kind and a place", box.copy(0, -1, 8, -1, -1), -1);

        edge.sentence(31, "-11: of either;");
        edge.is("from nothing", box.copy(7, 0, 4, 0, 0), -11);
        edge.is("to nothing", box.copy(4, 0, 7, 0, 0), -11);
        edge.is("from nothing to nothing", box.copy(7, 0, 7, 0, 0), -11);
        edge.is("ahead of another kind", box.copy(0, 0, 7, 0, 0), -11);
        edge.is("ahead of a place", box.copy(4, -1, 7, 9, LEAST), -11);

        edge.sentence(31, "-12: one is no ROW (of bytes, ints), or they are not of one kind;");
        edge.all("from THING #", -12, d -> box.copy(d, 0, 4, 0, 0), 0, 1, 2, 3);
        edge.all("to THING #", -12, e -> box.copy(5, 0, e, 0, 0), 0, 1, 2, 3);
        edge.all("THING # to itself", -12, d -> box.copy(d, 0, d, 0, 0), 0, 1, 2, 3);
        edge.is("bytes to ints", box.copy(4, 0, 5, 0, 1), -12);
        edge.is("ints to bytes", box.copy(5, 0, 4, 0, 1), -12);
        edge.is("ahead of a place", box.copy(5, 5, 4, -1, -1), -12);

        edge.sentence(31, "-13: n, i or j is below 0, or beyond either's end.");
        edge.all("copy(4, 0, 6, 0, #)", -13, n -> box.copy(4, 0, 6, 0, n), LEAST, -1, 5, 6, 7, LARGEST);
        edge.all("copy(4, #, 6, 0, 1)", -13, i -> box.copy(4, i, 6, 0, 1), LEAST, -1, 4, 5, LARGEST);
        edge.all("copy(4, 0, 6, #, 1)", -13, j -> box.copy(4, 0, 6, j, 1), LEAST, -1, 6, 7, LARGEST);
        edge.all("copy(4, #, 6, 0, 0)", -13, i -> box.copy(4, i, 6, 0, 0), LEAST, -1, 5, LARGEST);
        edge.all("copy(4, 0, 6, #, 0)", -13, j -> box.copy(4, 0, 6, j, 0), LEAST, -1, 7, LARGEST);
        edge.all("copy(6, 0, 4, 0, #)", -13, n -> box.copy(6, 0, 4, 0, n), 5, 6);
        edge.all("copy(4, 1, 6, 0, #)", -13, n -> box.copy(4, 1, 6, 0, n), 4, LARGEST);
        edge.all("copy(4, #, 6, #, #), whose sums wrap", -13, n -> box.copy(4, n, 6, n, n), LEAST, LARGEST,
                LARGEST / 2 + 1);
        edge.is("just not beyond", box.copy(4, 1, 6, 3, 3), 3);
        edge.is("just beyond the other's end", box.copy(4, 1, 6, 4, 3), -13);
        edge.is("ints, too", box.copy(5, 4, 5, 0, 1), -13);
        edge.is("ints, just not", box.copy(5, 3, 5, 0, 1), 1);
    }

    private void weight() {
        edge.sentence(32, "The WEIGHT of the THING on SHELF d: its number and 1; of a ROW 10 for each place more; of a LOCK 100 more; of a GATE twice what it would have as a LOCK.");
        ReplayBox box = shelved();
        edge.is("ROW 0 of 2", box.weight(0), 1 + 20);
        edge.is("LOCK 1", box.weight(1), 2 + 100);
        edge.is("GATE 2", box.weight(2), 2 * (3 + 100));
        edge.is("ROW 3 of 0", box.weight(3), 4);
        ReplayBox most = Programs.ran("SET 1 16; ROW 0 1; " + "LOCK 0 1; ".repeat(10) + "ROW 0 1; LOCK 0");
        for (int k = 0; k <= 11; k++) {
            most.keep(0, 1, k);
            edge.is("THING " + k, most.weight(0), k == 0 ? 161 : k == 11 ? 12 + 160 : 2 * (k + 101));
        }
        ReplayBox first = Programs.ran("LOCK 0; LOCK 0 1; LOCK 0");
        first.keep(0, 1, 0);
        edge.is("LOCK 0", first.weight(0), 101);

        edge.sentence(32, "-1, -11, -12.");
        edge.all("weight(#)", -1, box::weight, LEAST, -1, 8, LARGEST);
        edge.is("of nothing", box.weight(7), -11);
        edge.is("of bytes", box.weight(4), -12);
        edge.is("of ints", box.weight(5), -12);
        edge.is("of a ROW of no bytes", box.make(7, BYTES, 0) + box.weight(7), -12);
    }

    private void toss() {
        edge.sentence(33, "The FAILURE of the THING on SHELF d is thrown, and caught: its number.");
        ReplayBox most = Programs.ran("LOCK 0; LOCK 0 1; GO 0");
        for (int k = 0; k <= 11; k++) {
            most.keep(7, 1, k);
            edge.is("of THING " + k, most.toss(7), k);
            edge.is("again", most.toss(7), k);
        }
        edge.is("it is still held", most.weight(7), 2 * 112);

        edge.sentence(33, "-1, -11, -12;");
        ReplayBox box = shelved();
        edge.all("toss(#)", -1, box::toss, LEAST, -1, 8, LARGEST);
        edge.is("of nothing", box.toss(7), -11);
        edge.all("of bytes and ints, toss(#)", -12, box::toss, 4, 5, 6);

        edge.sentence(33, "-15: a ROW has none.");
        edge.is("a ROW of 2", box.toss(0), -15);
        edge.is("a ROW of 0", box.toss(3), -15);
        edge.is("a LOCK has", box.toss(1), 1);
        edge.is("a GATE has", box.toss(2), 2);
    }
}
