/** The sentences of promises 26 and 27: which schedule of few CHANGES fails. */
final class EdgesOfSearch {
    private static final int LEAST = Edges.LEAST;
    private static final int LARGEST = Edges.LARGEST;
    // Three SETS, 97 rounds of LESS, UNLESS, GO, and a 98th round without GO.
    private static final String STEPS_296 = "SET 0 98; SET 1 1; SET 2 0; LESS 0 1; UNLESS 0 6; GO 3; ";
    private final Edges edge;

    private EdgesOfSearch(Edges edge) {
        this.edge = edge;
    }

    static void look(Edges edge) {
        EdgesOfSearch edges = new EdgesOfSearch(edge);
        edges.whereChangesAre();
        edges.howManyChanges();
        edges.order();
        edges.howManyRuns();
        edges.nothingElse();
        edges.refusals();
        edges.found();
        edges.foundRefusals();
    }

    private void searched(String what, ReplayBox box, int changes, int runs, int number, int made) {
        edge.is(what + ": find(" + changes + ", " + runs + ")", box.find(changes, runs), number);
        edge.is(what + ": found(6)", box.found(6), made);
    }

    private void foundIs(String what, ReplayBox box, int... want) {
        for (int k = 0; k < want.length; k++) {
            edge.is(what + ": found(" + k + ")", box.found(k), want[k]);
        }
    }

    // It FAILS only if THREAD 1 goes between the two PUTS.
    private static ReplayBox between() {
        return Programs.box("START 1; SET 0 1; PUT 0 0; SET 0 0; PUT 0 0", "GET 0 0; UNLESS 0 3; FAIL 0 4");
    }

    // It FAILS only if THREAD 1 goes between the two PUTS, and THREAD 0 between the two GETS.
    private static ReplayBox twice() {
        return Programs.box("START 1; SET 0 1; PUT 0 0; SET 0 0; PUT 0 0",
                "GET 0 0; GET 1 0; UNLESS 0 4; UNLESS 1 5; END; FAIL 0 9");
    }

    private void whereChangesAre() {
        edge.sentence(26, "FOUND: runs without a SCHEDULE, but that behind so many steps (1 or more, fewer than the run would have) another THREAD than would go on by itself, which CAN GO then, goes on;");
        ReplayBox box = between();
        box.turn(0, 3);
        box.turn(1, 3);
        edge.is("its SCHEDULE FAILS", box.run(), 2);
        searched("the TURNS are none of it", box, 0, 100, 0, 1);
        searched("one who isn't STARTED can't", Programs.box("SET 0 1; SET 0 2", "FAIL"), 2, 100, 0, 1);
        searched("behind the last step there is none", Programs.box("SET 0 1; START 1", "SET 0 1"), 2, 100, 0, 1);
        searched("behind 1 step, where the run has 3", Programs.box("START 1; SET 0 1", "SET 0 1"), 1, 100, 0, 2);
        ReplayBox two = Programs.box("START 1; SET 0 1; SET 0 2", "SET 0 1");
        searched("behind 1 and 2 steps, where it has 4", two, 1, 100, 0, 3);
        ReplayBox locked = Programs.box("LOCK 0; PUT 0 0; TAKE 0; START 1; SET 1 1", "GET 0 0; TAKE 0");
        searched("one at a LOCK can't: its GET alone can be first", locked, 2, 100, 0, 2);
        ReplayBox goesOn = Programs.box("START 1; SET 0 1; PUT 0 0",
                "GET 0 0; GET 1 0; ADD 0 1; UNLESS 0 5; END; FAIL 0 6");
        searched("the other one goes on: it GETS 0 twice", goesOn, 1, 100, 2, 2);
        ReplayBox endless = Programs.box("START 1; GO 1", "GO 0");
        searched("LONG: behind 1 to 99 of 300 steps, and no more runs", endless, 1, 100, 0, 100);
        ReplayBox last = Programs.box(STEPS_296 + "SET 3 1; SET 3 1; START 1; SET 3 1; SET 3 1", "FAIL");
        searched("LONG: without a CHANGE it doesn't FAIL", last, 0, 100, 0, 1);
        searched("LONG: behind 299 steps", last, 1, 100, 2, 2);
        edge.is("so many", last.found(1), 299);
        ReplayBox beyond = Programs.box(STEPS_296 + "SET 3 1; SET 3 1; SET 3 1; START 1; SET 3 1", "FAIL");
        searched("LONG: not behind 300", beyond, 2, 100, 0, 1);
    }

    private void howManyChanges() {
        edge.sentence(26, "at most so many such CHANGES (0 .. 2).");
        searched("none is enough", Programs.box("FAIL"), 0, 1, 1, 1);
        searched("none is too few", between(), 0, 100, 0, 1);
        searched("one is enough", between(), 1, 100, 4, 4);
        searched("two would be, too: it is the same", between(), 2, 100, 4, 4);
        searched("one is too few", twice(), 1, 100, 0, 5);
        searched("two are enough", twice(), 2, 100, 12, 12);
    }

    private void order() {
        edge.sentence(26, "First the one without; then with one: the fewest steps first, of these the least THREAD;");
        searched("the one without", Programs.box("START 1; FAIL", "FAIL"), 2, 100, 1, 1);
        // THREADS 1, 2, 3 FAIL at once, but only once CELL 0 is 1, which THREAD 0 makes 0 again.
        ReplayBox box = Programs.box("START 1; START 2; START 3; SET 0 1; PUT 0 0; SET 0 0; PUT 0 0", "SET 0 1",
                "GET 0 0; UNLESS 0 3; FAIL 0 2", "GET 0 0; UNLESS 0 3; FAIL 0 3");
        // Behind 1 step: 1; 2: 1, 2; 3: 1, 2, 3; 4: 1, 2, 3; 5: 1, then 2, which FAILS.
        searched("behind 5 steps THREAD 2, ahead of 3", box, 1, 100, 1 + 1 + 2 + 3 + 3 + 2, 12);
        foundIs("that one", box, 1, 5, 2, -2, -2, 12);

        edge.sentence(26, "then with two: the first CHANGE likewise, for each the second one likewise (behind more steps).");
        ReplayBox two = twice();
        // One: behind 1 to 4 steps. Two: of (1, 1) behind 2, 3, 4; of (2, 1) behind 3, 4, 5; of (3, 1) behind 4.
        searched("the seventh with two", two, 2, 100, 1 + 4 + 3 + 3 + 1, 12);
        foundIs("that one", two, 2, 3, 1, 4, 0, 19);
        ReplayBox small = Programs.box("START 1; SET 0 1; SET 0 2", "SET 0 1; SET 0 2");
        // With one: (1, 1), (2, 1). With two: (1, 1) (2, 0); (2, 1) (3, 0).
        searched("all that there are", small, 2, 100, 0, 5);
        ReplayBox none = Programs.box("START 1; SET 0 1", "SET 0 1");
        searched("the second one is behind more steps, and there it is none", none, 2, 100, 0, 2);
    }

    private void howManyRuns() {
        edge.sentence(26, "At most so many runs (1 .. 100) are made: the number (from 1) of the first one that FAILS; 0: none did.");
        searched("number 1", Programs.box("FAIL"), 0, 1, 1, 1);
        searched("3 are too few", between(), 2, 3, 0, 3);
        searched("4 are enough", between(), 2, 4, 4, 4);
        searched("11 are too few", twice(), 2, 11, 0, 11);
        searched("12 are enough", twice(), 2, 12, 12, 12);
        searched("1 run", Programs.box("START 1; GO 1", "GO 0"), 2, 1, 0, 1);
        searched("99 runs", Programs.box("START 1; GO 1", "GO 0"), 2, 99, 0, 99);
        searched("100 runs", Programs.box("START 1; GO 1", "GO 0"), 2, 100, 0, 100);
        // One THREAD that could go instead, behind 1 to n steps: the last of n + 1 runs FAILS.
        searched("number 100", failsBehind(99), 1, 100, 100, 100);
        searched("number 101 isn't made", failsBehind(100), 1, 100, 0, 100);
        searched("no INSTRUCTIONS", new ReplayBox(), 2, 100, 0, 1);
        ReplayBox again = twice();
        for (int runs = 1; runs <= 12; runs++) {
            searched("one more than ahead", again, 2, runs, runs == 12 ? 12 : 0, runs);
            searched("all that are needed, behind it", again, 2, 100, 12, 12);
        }
    }

    // Step n makes CELL 0 1, a later one 0 again; THREAD 1, which FAILS by a 1, is STARTED by the first step.
    private static ReplayBox failsBehind(int n) {
        int rounds = (n - 5) / 3;
        int filling = (n - 5) % 3;
        int loop = 3 + filling;
        return Programs.box("START 1; SET 0 " + rounds + "; SET 1 1; " + "SET 2 1; ".repeat(filling)
                + "LESS 0 1; UNLESS 0 " + (loop + 3) + "; GO " + loop
                + "; SET 3 1; SET 3 1; PUT 0 1; SET 3 1; SET 2 0; PUT 0 2", "GET 0 0; UNLESS 0 3; FAIL");
    }

    private void nothingElse() {
        edge.sentence(26, "Nothing else is told anew.");
        ReplayBox box = between();
        box.run();
        box.play(0, 0);
        box.to(2);
        box.keep(0, 2, 0);
        edge.is("find(2, 100)", box.find(2, 100), 4);
        edge.is("how the run was over", box.told(0), 0);
        edge.is("its CHANGES", box.told(5), 1);
        edge.is("its steps", box.told(1), 7);
        edge.is("THE VIEW", box.back(0), 2);
        edge.is("LOCAL 0 in it", box.value(0, 0, 1), 1);
        edge.is("THREAD 1 in it", box.thread(1, 1), 1);
        edge.is("ended()", box.ended(), 0);
        edge.is("the SHELF", box.element(0, 5), 1);
        edge.is("TURNS", box.freely(), 0);
        edge.is("the next run", box.run(), 0);
        ReplayBox fresh = between();
        fresh.find(2, 100);
        edge.is("no run", fresh.told(0), -2);
        edge.is("no play()", fresh.ended(), -2);
        edge.is("the INSTRUCTIONS", fresh.clear(0), 5);
    }

    private void refusals() {
        edge.sentence(26, "-1.");
        ReplayBox box = between();
        edge.all("find(#, 1)", -1, changes -> box.find(changes, 1), LEAST, -1, 3, LARGEST);
        edge.all("find(0, #)", -1, runs -> box.find(0, runs), LEAST, -1, 0, 101, LARGEST);
        edge.is("find(-1, 0)", box.find(-1, 0), -1);
        edge.is("no find() was made", box.found(6), 0);
        edge.is("find(2, 100)", box.find(2, 100), 4);
        edge.is("find(3, 1) behind it", box.find(3, 1), -1);
        foundIs("it is still the latest", box, 1, 3, 1, -2, -2, 14, 4);
    }

    private void found() {
        edge.sentence(27, "Of the one that was FOUND last: 0 how many CHANGES, 1 steps, 2 THREAD of the first, 3 steps, 4 THREAD of the second, 5 the FAILURE;");
        ReplayBox box = Programs.box("FAIL 0 9");
        box.find(2, 100);
        foundIs("without CHANGES", box, 0, -2, -2, -2, -2, 19);
        box = between();
        box.find(2, 100);
        foundIs("with one", box, 1, 3, 1, -2, -2, 14);
        box = twice();
        box.find(2, 100);
        foundIs("with two", box, 2, 3, 1, 4, 0, 19);
        box.run();
        box.clear(0);
        foundIs("behind a run and a clear, too", box, 2, 3, 1, 4, 0, 19);
        ReplayBox early = Programs.box("START 3; GET 0 0; UNLESS 0 4; FAIL 0 1; END", "", "", "SET 0 1; PUT 0 0");
        early.find(1, 100);
        foundIs("behind one step, THREAD 3", early, 1, 1, 3, -2, -2, 11);
        ReplayBox late = failsBehind(99);
        late.find(1, 100);
        foundIs("behind 99 steps", late, 1, 99, 1, -2, -2, 10);

        edge.sentence(27, "6 how many runs were made by the latest find().");
        edge.is("100", late.found(6), 100);
        late.find(0, 100);
        edge.is("1", late.found(6), 1);
        edge.is("the latest FOUND none", late.found(0), -2);
        late.find(2, 7);
        edge.is("7", late.found(6), 7);
        edge.is("ahead of any", new ReplayBox().found(6), 0);
    }

    private void foundRefusals() {
        edge.sentence(27, "-1 for others;");
        ReplayBox box = between();
        edge.all("ahead of a find(), found(#)", -1, box::found, LEAST, -1, 7, LARGEST);
        box.find(0, 1);
        edge.all("behind one that FOUND none, found(#)", -1, box::found, LEAST, -1, 7, LARGEST);
        box.find(1, 100);
        edge.all("behind one that FOUND, found(#)", -1, box::found, LEAST, -1, 7, LARGEST);

        edge.sentence(27, "-2: the latest find() FOUND none (but of 6), or that CHANGE isn't there.");
        ReplayBox fresh = between();
        edge.all("there was none, found(#)", -2, fresh::found, 0, 1, 2, 3, 4, 5);
        edge.all("the second isn't there, found(#)", -2, box::found, 3, 4);
        box.find(0, 100);
        edge.all("the latest FOUND none, found(#)", -2, box::found, 0, 1, 2, 3, 4, 5);
        edge.is("but of 6", box.found(6), 1);
        ReplayBox at = Programs.box("FAIL");
        at.find(2, 100);
        edge.all("neither is there, found(#)", -2, at::found, 1, 2, 3, 4);
        edge.is("how many", at.found(0), 0);
    }
}
