/** The sentences of the Terms on a RUN, THE RECORD, PLACES, AHEAD and RACES, and of promises 8 to 13. */
final class EdgesOfRuns {
    private static final int LEAST = Edges.LEAST;
    private static final int LARGEST = Edges.LARGEST;
    private static final int TERMS = Edges.TERMS;
    // 299 steps: three SETS, 98 rounds of LESS, UNLESS, GO, and a 99th round without GO.
    private static final String STEPS_299 = "SET 0 99; SET 1 1; SET 2 0; LESS 0 1; UNLESS 0 6; GO 3; ";
    private final Edges edge;

    private EdgesOfRuns(Edges edge) {
        this.edge = edge;
    }

    static void look(Edges edge) {
        EdgesOfRuns edges = new EdgesOfRuns(edge);
        edges.canGo();
        edges.schedule();
        edges.behindTheSchedule();
        edges.over();
        edges.overLong();
        edges.record();
        edges.places();
        edges.ahead();
        edges.aheadByLocks();
        edges.aheadByOthers();
        edges.races();
        edges.run();
        edges.told();
        edges.toldCounts();
        edges.change();
        edges.step();
        edges.playKnown();
        edges.playSteps();
        edges.playTold();
        edges.playOn();
        edges.playEnds();
        edges.playRefusals();
        edges.ended();
    }

    /** Two THREADS that hand a GATE to and fro: CHANGE i, of 74, is behind 5 + 4 * i steps, to THREAD 1, 0, 1, .. */
    static ReplayBox toAndFro() {
        return Programs.box("LOCK 0 1; PUT 0 0; START 1; TAKE 0; WAIT 0; WORD 0; GO 4",
                "GET 0 0; TAKE 0; WORD 0; WAIT 0; GO 2");
    }

    private void canGo() {
        edge.sentence(TERMS, "A RUN goes step by step. A THREAD CAN GO if it is STARTED, hasn't ENDED, is not ASLEEP, and nothing is told by which it can't.");
        ReplayBox box = Programs.box("LOCK 0 1; PUT 0 0; START 1; START 2; TAKE 0; FAIL", "GET 0 0; TAKE 0; WAIT 0",
                "GET 0 0; TAKE 0", "SET 0 1");
        box.turn(0, 4);
        box.turn(1, 3);
        box.turn(2, 1);
        box.turn(0, 1);
        box.run();
        edge.is("steps", box.told(1), 10);
        edge.is("THREAD 0, at its FAIL", box.thread(0, 1), 1);
        edge.is("THREAD 1, ASLEEP", box.thread(1, 1), 3);
        edge.is("THREAD 2, at a LOCK that is another one's", box.thread(2, 1), 2);
        edge.is("THREAD 3, not STARTED", box.thread(3, 1), 0);
        box.to(8);
        edge.is("THREAD 2, at a LOCK that is free", box.thread(2, 1), 1);
        edge.is("one at its own LOCK CAN GO, and FAILS", Programs.ran("LOCK 0; TAKE 0; TAKE 0").thread(0, 1), 1);
        edge.is("one at INPUT without INPUTS CAN GO, and FAILS", Programs.ran("INPUT 0").thread(0, 1), 1);
        edge.is("one that has ENDED", Programs.ran("END").thread(0, 1), 4);
    }

    private void schedule() {
        edge.sentence(TERMS, "THE SCHEDULE are TURNS (at most 40), each a THREAD and how many steps: that THREAD goes, if it CAN, as often as told as long as it CAN; then the next TURN.");
        ReplayBox box = Programs.box("START 1; GO 1", "GO 0");
        for (int k = 0; k < 40; k++) {
            edge.is("TURN " + (k + 1), box.turn(k % 2, 1), k + 1);
        }
        edge.is("TURN 41", box.turn(0, 1), -2);
        box.run();
        for (int s = 1; s <= 40; s++) {
            edge.is("THREAD of step " + s, box.step(s, 0), (s - 1) % 2);
        }
        edge.is("THREAD of step 41", box.step(41, 0), 1);
        ReplayBox some = Programs.box("START 1; START 2; LOCK 0; PUT 0 0; TAKE 0; SET 1 1; SET 1 2", "SET 1 1; SET 1 2",
                "GET 0 0; TAKE 0; SET 1 1");
        some.turn(1, 1);
        some.turn(0, 5);
        some.turn(3, 100);
        some.turn(1, 100);
        some.turn(2, 100);
        some.turn(0, 1);
        some.turn(1, 1);
        some.run();
        // Gone: TURNS 1 and 3, not STARTED; of 4 all but two, ENDED; of 5 all but one, the LOCK; 7, ENDED.
        edge.rows("TURNS of those that can't", Programs.stepThreads(some), 0, 0, 0, 0, 0, 1, 1, 2, 0, 0);
        edge.is("THREAD 2 is STUCK", some.told(0), 1);
    }

    private void behindTheSchedule() {
        edge.sentence(TERMS, "Behind the last one, or without any: who went last (at first THREAD 0) goes as long as it CAN; then the least one that CAN, and so on.");
        String[] threads = {"START 1; START 2; START 3; SET 0 1; SET 0 2", "SET 0 1; SET 0 2", "SET 0 1; SET 0 2",
                "SET 0 1"};
        ReplayBox box = Programs.box(threads);
        box.run();
        edge.rows("without any", Programs.stepThreads(box), 0, 0, 0, 0, 0, 1, 1, 2, 2, 3);
        box.turn(0, 3);
        box.turn(2, 1);
        box.run();
        edge.rows("THREAD 2 went last", Programs.stepThreads(box), 0, 0, 0, 2, 2, 0, 0, 1, 1, 3);
        box.turn(0, 2);
        box.run();
        edge.rows("THREAD 0 went last, and has ENDED", Programs.stepThreads(box), 0, 0, 0, 2, 0, 0, 1, 1, 2, 3);
        box.freely();
        box.turn(0, 3);
        box.turn(3, 1);
        box.turn(3, 5);
        box.run();
        edge.rows("who couldn't go in the last TURN", Programs.stepThreads(box), 0, 0, 0, 3, 0, 0, 1, 1, 2, 2);
        ReplayBox atFirst = Programs.box("SET 0 1; START 1", "SET 0 1");
        atFirst.turn(1, 9);
        atFirst.run();
        edge.rows("at first THREAD 0", Programs.stepThreads(atFirst), 0, 0, 1);
        ReplayBox again = Programs.box("LOCK 0; PUT 0 0; TAKE 0; START 1; START 2; LEAVE 0; SET 1 1",
                "GET 0 0; TAKE 0; LEAVE 0", "SET 1 1; SET 1 2");
        again.turn(0, 5);
        again.turn(1, 1);
        again.run();
        edge.rows("the least goes on, also when the other CAN again", Programs.stepThreads(again), 0, 0, 0, 0, 0, 1,
                0, 0, 1, 1, 2, 2);
    }

    private void over() {
        edge.sentence(TERMS, "The run is over: 0 DONE: no THREAD CAN GO, all that are STARTED have ENDED;");
        edge.is("nothing to do", Programs.box("").run(), 0);
        edge.is("THREADS that are not STARTED don't count", Programs.box("SET 0 1", "SET 0 1").run(), 0);
        edge.is("all four have ENDED", Programs.box("START 1; START 2; START 3", "SET 0 1", "", "END").run(), 0);
        edge.is("behind 300 steps", Programs.box(STEPS_299 + "SET 3 1").run(), 0);
        edge.is("a LOCK may be held in the end", Programs.box("LOCK 0; TAKE 0").run(), 0);

        edge.sentence(TERMS, "1 STUCK: none CAN, else;");
        edge.is("ASLEEP", Programs.box("LOCK 0 1; TAKE 0; WAIT 0").run(), 1);
        edge.is("at a LOCK", Programs.box("LOCK 0; PUT 0 0; TAKE 0; START 1", "GET 0 0; TAKE 0").run(), 1);
        edge.is("behind 300 steps", stuckBehind300(), 1);

        edge.sentence(TERMS, "2 FAILED;");
        edge.is("at the first step", Programs.box("FAIL").run(), 2);
        edge.is("at step 300", Programs.box(STEPS_299 + "FAIL").run(), 2);
        edge.is("while others are STUCK", Programs.box("LOCK 0; PUT 0 0; TAKE 0; START 1; FAIL",
                "GET 0 0; TAKE 0").run(), 2);
    }

    private void overLong() {
        edge.sentence(TERMS, "3 LONG: 300 steps are done, and a THREAD CAN still GO (2 ahead of it).");
        ReplayBox box = Programs.ran(STEPS_299);
        edge.is("299 steps", box.told(1), 299);
        edge.is("they are DONE", box.told(0), 0);
        box = Programs.ran(STEPS_299 + "SET 3 1");
        edge.is("300 steps", box.told(1), 300);
        edge.is("they are DONE, too", box.told(0), 0);
        box = Programs.ran(STEPS_299 + "SET 3 1; SET 3 2");
        edge.is("300 of 301 steps", box.told(1), 300);
        edge.is("they are LONG", box.told(0), 3);
        edge.is("the 301st isn't done", box.value(0, 3, 1), 1);
        box = Programs.ran(STEPS_299 + "FAIL; SET 3 2");
        edge.is("FAILED at 300, though the THREAD CAN GO", box.told(0), 2);
        box = Programs.ran(STEPS_299 + "SET 3 1; FAIL");
        edge.is("a FAIL that would be step 301", box.told(0), 3);
        edge.is("it is no FAILURE", box.told(2), 0);
        box = Programs.ran("START 1; " + STEPS_299.replace("GO 3", "GO 4").replace("UNLESS 0 6", "UNLESS 0 7"),
                "SET 0 1");
        edge.is("300 steps of THREAD 0", box.step(300, 0), 0);
        edge.is("another THREAD CAN still GO", box.told(0), 3);
        box = Programs.box("START 1; GO 1", "GO 0");
        for (int k = 0; k < 4; k++) {
            box.turn(k % 2, 100);
        }
        edge.is("TURNS of 400 steps", box.run(), 3);
        edge.is("their steps", box.told(1), 300);
        box = Programs.box(STEPS_299 + "SET 3 1");
        for (int k = 0; k < 5; k++) {
            box.turn(0, 100);
        }
        edge.is("TURNS of 500 steps, none is left behind 300", box.run(), 0);
    }

    // STEPS_299 with a LOCK that THREAD 1 waits for; THREAD 0 is DONE at step 299, THREAD 1's GET is step 300.
    private static int stuckBehind300() {
        ReplayBox box = Programs.ran("SET 0 97; SET 1 1; LOCK 2; PUT 0 2; TAKE 2; START 1; LESS 0 1; "
                + "UNLESS 0 9; GO 6; SET 3 1; SET 3 2; SET 3 3", "GET 0 0; TAKE 0");
        return box.told(1) == 300 && box.step(300, 0) == 1 ? box.told(0) : -99;
    }

    private void record() {
        edge.sentence(TERMS, "THE RECORD of the latest run: CHANGES: at each step whose THREAD is another one than that of the step before (of the first step: than 0): how many steps were done ahead of it, and the THREAD;");
        edge.is("THREAD 0 alone", Programs.ran("SET 0 1; SET 0 2").told(5), 0);
        ReplayBox box = Programs.box("START 1; GO 1", "GO 0");
        for (int k = 0; k < 40; k++) {
            box.turn(k % 2, 1);
        }
        box.run();
        edge.is("at each step but the first and those behind the TURNS", box.told(5), 39);
        for (int i = 0; i < 39; i++) {
            edge.is("steps ahead of CHANGE " + i, box.change(i, 0), i + 1);
            edge.is("its THREAD", box.change(i, 1), (i + 1) % 2);
        }
        ReplayBox many = toAndFro();
        many.run();
        edge.is("without TURNS", many.told(5), 74);
        for (int i = 0; i < 74; i++) {
            edge.is("steps ahead of CHANGE " + i, many.change(i, 0), 5 + 4 * i);
            edge.is("its THREAD", many.change(i, 1), (i + 1) % 2);
        }
        many.clear(1);
        many.run();
        edge.is("of the latest run", many.told(5), 0);

        edge.sentence(TERMS, "and the INPUTS that it took.");
        ReplayBox inputs = Programs.box("INPUT 0; INPUT 0; INPUT 0");
        int[] taken = {0, 1, 2, 3, 3};
        for (int given = 0; given < taken.length; given++) {
            inputs.run();
            edge.is("of " + given, inputs.told(6), taken[given]);
            inputs.input(given);
        }
    }

    private void places() {
        edge.sentence(TERMS, "PLACES: 0 .. 11 CELLS; 100 and 20 times the THING and the place in it, of ROWS.");
        ReplayBox box = Programs.ran("PUT 0 0; PUT 11 0; GET 0 0; GET 0 11");
        edge.is("CELL 0, written", box.step(1, 4), 0);
        edge.is("CELL 11, written", box.step(2, 4), 11);
        edge.is("CELL 0, read", box.step(3, 3), 0);
        edge.is("CELL 11, read", box.step(4, 3), 11);
        ReplayBox first = Programs.ran("SET 1 16; ROW 0 1; SET 1 0; WRITE 0 1 1; READ 2 0 1; SET 1 15; WRITE 0 1 1");
        edge.is("place 0 of THING 0, written", first.step(4, 4), 100);
        edge.is("place 0 of THING 0, read", first.step(5, 3), 100);
        edge.is("place 15 of THING 0", first.step(7, 4), 115);
        ReplayBox last = Programs.ran("LOCK 0; ".repeat(11)
                + "SET 1 16; ROW 0 1; SET 1 0; WRITE 0 1 1; SET 1 15; WRITE 0 1 1; READ 2 0 1");
        edge.is("place 0 of THING 11", last.step(15, 4), 320);
        edge.is("place 15 of THING 11, written", last.step(17, 4), 335);
        edge.is("place 15 of THING 11, read", last.step(18, 3), 335);
        edge.is("last() of it", last.last(335, 18), 17);
        edge.is("next() of it", last.next(335, 0), 18);

        edge.sentence(TERMS, "GET and READ read one, PUT and WRITE write one (if they don't FAIL).");
        edge.is("GET writes none", box.step(3, 4), -2);
        edge.is("PUT reads none", box.step(1, 3), -2);
        edge.is("READ writes none", first.step(5, 4), -2);
        edge.is("WRITE reads none", first.step(4, 3), -2);
        edge.is("ROW reads none", first.step(2, 3), -2);
        edge.is("ROW writes none", first.step(2, 4), -2);
        edge.is("READ that FAILS", Programs.ran("ROW 0 1; READ 2 0 1").step(2, 3), -2);
        edge.is("WRITE that FAILS", Programs.ran("ROW 0 1; WRITE 0 1 1").step(2, 4), -2);
    }

    private void ahead() {
        edge.sentence(TERMS, "AHEAD: of steps s before t: s is AHEAD of t, if both are of one THREAD;");
        ReplayBox box = Programs.box("START 1; SET 0 1; SET 0 2", "SET 0 1; SET 0 2");
        box.turn(0, 2);
        box.turn(1, 1);
        box.turn(0, 1);
        box.run();
        edge.is("the first and the last", box.ahead(1, 4), 1);
        edge.is("one beside the other", box.ahead(1, 2), 1);
        edge.is("of THREAD 1", box.ahead(3, 5), 1);
        edge.is("of two THREADS", box.ahead(2, 3), 0);
        edge.is("of two THREADS, back", box.ahead(3, 4), 0);
        ReplayBox many = Programs.ran("GO 0");
        edge.is("the first of 300 and the last", many.ahead(1, 300), 1);
    }

    private void aheadByLocks() {
        edge.sentence(TERMS, "s leaves a LOCK (LEAVE, or WAIT that lies down) and t takes the same THING (TAKE, or behind a WAIT);");
        ReplayBox locks = lockSteps();
        edge.is("LEAVE and TAKE", locks.ahead(8, 11), 1);
        edge.is("LEAVE and the second TAKE", locks.ahead(8, 14), 1);
        edge.is("LEAVE and what is ahead of TAKE", locks.ahead(8, 10), 0);
        edge.is("what is behind LEAVE and TAKE", locks.ahead(9, 11), 0);
        ReplayBox other = lockSteps();
        edge.is("LEAVE and TAKE of one LOCK, in a run ahead of another", other.ahead(8, 11), 1);
        other.turn(0, 9);
        other.turn(2, 3);
        other.run();
        edge.is("LEAVE and TAKE of another LOCK", other.ahead(8, 11), 0);
        edge.is("TAKE and TAKE", other.ahead(7, 12), 0);
        edge.is("what is behind LEAVE and another THREAD's first step", other.ahead(9, 10), 0);
        ReplayBox last = Programs.ran("LOCK 0; ".repeat(11) + "LOCK 0 1; PUT 0 0; START 1; TAKE 0; LEAVE 0; SET 1 1",
                "GET 0 0; TAKE 0; LEAVE 0");
        edge.is("LEAVE and TAKE of THING 11", last.ahead(16, 19), 1);
        edge.is("what is behind LEAVE and TAKE of THING 11", last.ahead(17, 20), 0);
        ReplayBox gates = gateSteps();
        edge.is("WAIT that lies down and TAKE", gates.ahead(6, 8), 1);
        edge.is("WAIT that lies down and what is ahead of TAKE", gates.ahead(6, 7), 0);
        edge.is("LEAVE and behind a WAIT", gates.ahead(10, 12), 1);
        edge.is("what is behind LEAVE and behind a WAIT", gates.ahead(11, 12), 0);
        ReplayBox hands = toAndFro();
        hands.run();
        edge.is("WAIT that lies down and behind a WAIT", hands.ahead(9, 10), 1);
        edge.is("the first WAIT and the last step", hands.ahead(5, 300), 1);
    }

    private void aheadByOthers() {
        ReplayBox locks = lockSteps();
        ReplayBox gates = gateSteps();
        edge.sentence(TERMS, "s is a WORD that wakes a THREAD and t that one's step behind its WAIT;");
        edge.is("WORD and behind the WAIT", gates.ahead(9, 12), 1);
        edge.is("WORD and what is behind that", gates.ahead(9, 13), 1);

        edge.sentence(TERMS, "s STARTS the THREAD of t;");
        ReplayBox starts = Programs.box("SET 0 1; START 3; SET 0 2", "", "", "SET 0 1; SET 0 2");
        starts.run();
        edge.is("its first step", starts.ahead(2, 4), 1);
        edge.is("its last step", starts.ahead(2, 5), 1);
        edge.is("behind START", starts.ahead(3, 5), 0);

        edge.sentence(TERMS, "or s is AHEAD of a step that is AHEAD of t.");
        edge.is("ahead of START", starts.ahead(1, 5), 1);
        edge.is("ahead of LEAVE", locks.ahead(7, 11), 1);
        edge.is("behind TAKE", locks.ahead(8, 12), 1);
        edge.is("over two LOCKS and three THREADS", locks.ahead(8, 20), 1);
        edge.is("over two LOCKS, to what is behind", locks.ahead(8, 21), 1);
        edge.is("over two LOCKS, from behind the first LEAVE", locks.ahead(9, 20), 0);
        edge.is("ahead of WORD", gates.ahead(7, 12), 1);
    }

    // THREAD 0 is at steps 1 to 9; 1 at 10 GET, 11 TAKE, 13 LEAVE, 14 TAKE, 15 LEAVE, and with the other LOCK 17 TAKE,
    // 18 LEAVE; 2 at 19 GET, 20 TAKE of the other LOCK, 21.
    private static ReplayBox lockSteps() {
        return Programs.ran("LOCK 0; LOCK 1; PUT 0 0; PUT 1 1; START 1; START 2; TAKE 0; LEAVE 0; SET 2 1",
                "GET 0 0; TAKE 0; SET 2 1; LEAVE 0; TAKE 0; LEAVE 0; GET 1 1; TAKE 1; LEAVE 1",
                "GET 0 1; TAKE 0; SET 2 1");
    }

    // THREAD 0 is at steps 1 to 3; 1 at 4 GET, 5 TAKE, 6 WAIT; 0 at 7, 8 TAKE, 9 WORD, 10 LEAVE, 11; 1 at 12, 13.
    private static ReplayBox gateSteps() {
        ReplayBox box = Programs.box("LOCK 0 1; PUT 0 0; START 1; SET 1 1; TAKE 0; WORD 0; LEAVE 0; SET 1 2",
                "GET 0 0; TAKE 0; WAIT 0; SET 1 1");
        box.turn(0, 3);
        box.turn(1, 3);
        box.turn(0, 5);
        box.run();
        return box;
    }

    private void races() {
        edge.sentence(TERMS, "A RACE: two steps s before t of two THREADS, on one PLACE, one of them writes it, and s isn't AHEAD of t.");
        ReplayBox box = Programs.ran("PUT 0 0; START 1; PUT 0 0; GET 0 1; PUT 2 0; GET 0 3; PUT 0 0",
                "PUT 0 0; GET 1 1; GET 1 2; PUT 3 0; PUT 4 0");
        // THREAD 0 is at steps 1 to 7, 1 at 8 to 12. No RACE: 1 and 8 by START, 4 and 9 both read, 3 and 7 one THREAD.
        int[][] want = {{3, 8, 0}, {7, 8, 0}, {5, 10, 2}, {6, 11, 3}};
        edge.is("how many", box.race(0, 0), want.length);
        for (int i = 0; i < want.length; i++) {
            edge.is("s of RACE " + i, box.race(i, 1), want[i][0]);
            edge.is("t of RACE " + i, box.race(i, 2), want[i][1]);
            edge.is("PLACE of RACE " + i, box.race(i, 3), want[i][2]);
        }
        ReplayBox locked = Programs.ran("LOCK 0; PUT 0 0; START 1; TAKE 0; PUT 1 0; LEAVE 0; PUT 1 0",
                "GET 0 0; TAKE 0; PUT 1 0");
        edge.is("by a LOCK, but for what is behind LEAVE", locked.race(0, 0), 1);
        edge.is("that one", locked.race(0, 1), 7);
        String shared = "SET 1 2; ROW 0 1; PUT 0 0; START 1; SET 1 0; WRITE 0 1 1";
        edge.is("two places of one ROW", Programs.ran(shared, "GET 0 0; SET 1 1; WRITE 0 1 1").race(0, 0), 0);
        edge.is("one place of one ROW", Programs.ran(shared, "GET 0 0; SET 1 0; READ 2 0 1").race(0, 3), 100);
        edge.is("both read one place", Programs.ran(shared.replace("WRITE 0 1 1", "READ 2 0 1"),
                "GET 0 0; SET 1 0; READ 2 0 1").race(0, 0), 0);
        edge.is("a WRITE that FAILS has no PLACE", Programs.ran(shared, "GET 0 0; SET 1 2; WRITE 0 1 1").race(0, 0), 0);
        edge.is("one THREAD alone", Programs.ran("PUT 0 0; GET 0 0; PUT 0 0").race(0, 0), 0);
    }

    private void run() {
        edge.sentence(8, "A RUN: how it is over.");
        edge.is("DONE", new ReplayBox().run(), 0);
        edge.is("STUCK", Programs.box("LOCK 0 1; TAKE 0; WAIT 0").run(), 1);
        edge.is("FAILED", Programs.box("FAIL").run(), 2);
        edge.is("LONG", Programs.box("GO 0").run(), 3);

        edge.sentence(8, "(What is told of a run below is of the latest one, also when the program has changed since;");
        ReplayBox box = Programs.box("START 1; INPUT 0; PUT 3 0", "LOCK 0; SET 1 9");
        box.input(7);
        box.cell(3, 5);
        box.run();
        box.clear(0);
        box.clear(1);
        box.code(1, 18, 0, 0, 0);
        box.cell(3, 99);
        box.input(8);
        box.turn(1, 5);
        int[] told = {0, 5, 0, -1, 1, 1, 1, 7};
        for (int what = 0; what < told.length; what++) {
            edge.is("told(" + what + ")", box.told(what), told[what]);
        }
        edge.is("step(2, 2)", box.step(2, 2), 16);
        edge.is("change(0, 0)", box.change(0, 0), 3);
        edge.is("CELL 3 in the end", Programs.cell(box, 3), 7);
        box.to(0);
        edge.is("CELL 3 at first", Programs.cell(box, 3), 5);
        edge.is("THREAD 0 CAN GO", box.thread(0, 1), 1);
        edge.is("the SPAN of 5", box.when(3, 5, 0, 2), 2);
        edge.is("the SPAN of 99", box.when(3, 99, 0, 0), 0);
        edge.is("last(3, 5)", box.last(3, 5), 3);
        edge.is("differ(0, 3)", box.differ(0, 3), 3);
        edge.is("keep(0, 1, 0)", box.keep(0, 1, 0), 0);
        box.run();
        edge.is("the next run's steps", box.told(1), 0);
        edge.is("the next run's CELL 3", Programs.cell(box, 3), 99);
        edge.is("the next run's THINGS", box.keep(0, 1, 0), -1);

        edge.sentence(8, "the VIEW is behind its last step.)");
        ReplayBox view = Programs.ran("SET 0 1; SET 0 2");
        edge.is("where it is", view.back(0), 2);
        edge.is("LOCAL 0", view.value(0, 0, 1), 2);
        view.to(1);
        view.run();
        edge.is("behind a second run", view.back(0), 2);
        edge.is("behind a run of no step", Programs.ran("").back(0), 0);
        edge.is("behind a run of 300", Programs.ran("GO 0").back(0), 300);
    }

    private void told() {
        edge.sentence(9, "Of the run: 0 how it is over, 1 steps,");
        edge.is("steps of nothing", Programs.ran("").told(1), 0);
        edge.is("steps of a FAILURE", Programs.ran("FAIL").told(1), 1);
        edge.is("the most steps", Programs.ran("GO 0").told(1), 300);
        edge.is("how that is over", Programs.ran("GO 0").told(0), 3);
        edge.is("how a FAILURE is over", Programs.ran("FAIL").told(0), 2);

        edge.sentence(9, "2 the FAILURE (0 without), 3 its THREAD (-1 without),");
        ReplayBox fails = Programs.ran("START 3; SET 0 1", "", "", "FAIL 0 9");
        edge.is("the FAILURE", fails.told(2), 19);
        edge.is("its THREAD", fails.told(3), 3);
        edge.is("the THREAD of the first step's", Programs.ran("FAIL").told(3), 0);
        // 299 steps of THREAD 0: START, two SETS, 98 rounds without the last GO, three SETS.
        ReplayBox last = Programs.ran("START 2; SET 0 98; SET 1 1; LESS 0 1; UNLESS 0 6; GO 3; SET 3 1; "
                + "SET 3 1; SET 3 1", "", "FAIL 0 8");
        edge.is("the FAILURE of step 300", last.told(2), 18);
        edge.is("it is step 300", last.told(1), 300);
        edge.is("the THREAD of step 300's", last.told(3), 2);
        for (String without : new String[] {"", "LOCK 0 1; TAKE 0; WAIT 0", "GO 0"}) {
            edge.is("without", Programs.ran(without).told(2), 0);
            edge.is("without, its THREAD", Programs.ran(without).told(3), -1);
        }
        fails.clear(3);
        fails.run();
        edge.is("without, behind one with", fails.told(2), 0);
        edge.is("without, behind one with, its THREAD", fails.told(3), -1);
    }

    private void toldCounts() {
        edge.sentence(9, "4 THINGS made,");
        edge.is("none", Programs.ran("SET 0 1").told(4), 0);
        edge.is("all", Programs.ran("LOCK 0; GO 0").told(4), 12);
        edge.is("of three KINDS", Programs.ran("ROW 0 1; LOCK 0; LOCK 0 1").told(4), 3);

        edge.sentence(9, "5 CHANGES, 6 INPUTS taken,");
        ReplayBox none = Programs.box("SET 0 1", "SET 0 1");
        none.input(1);
        none.run();
        edge.is("no CHANGES", none.told(5), 0);
        edge.is("no INPUTS taken", none.told(6), 0);
        ReplayBox most = Programs.box("START 1; INPUT 0; GO 1", "SET 0 1");
        for (int k = 0; k < 30; k++) {
            most.input(k);
        }
        most.turn(0, 9);
        most.turn(1, 1);
        most.run();
        edge.is("CHANGES", most.told(5), 2);
        edge.is("all INPUTS", most.told(6), 30);

        edge.sentence(9, "7 bytes of THE RECORD: 3 for each CHANGE, 4 for each INPUT.");
        edge.is("of neither", none.told(7), 0);
        edge.is("of both", most.told(7), 3 * 2 + 4 * 30);
        ReplayBox hands = toAndFro();
        hands.run();
        edge.is("of CHANGES alone", hands.told(7), 3 * 74);

        edge.sentence(9, "-1 for others;");
        edge.all("told(#)", -1, none::told, LEAST, -1, 8, LARGEST);
        edge.is("told(0) is none of them", none.told(0), 0);
        edge.is("told(7) is none of them", none.told(7), 0);

        edge.sentence(9, "-2: there was none.");
        ReplayBox fresh = Programs.box("SET 0 1");
        edge.all("told(#)", -2, fresh::told, LEAST, -1, 0, 7, 8, LARGEST);
        fresh.find(2, 100);
        edge.all("find() is no run: told(#)", -2, fresh::told, 0, 7);
    }

    private void change() {
        edge.sentence(10, "CHANGE i, from 0: how many steps ahead (what 0), or its THREAD (1).");
        ReplayBox box = toAndFro();
        box.run();
        edge.is("the first one", box.change(0, 0), 5);
        edge.is("its THREAD", box.change(0, 1), 1);
        edge.is("the last one", box.change(73, 0), 297);
        edge.is("its THREAD", box.change(73, 1), 0);

        edge.sentence(10, "-1: there is none, another what.");
        edge.all("change(#, 0)", -1, i -> box.change(i, 0), LEAST, -1, 74, 299, 300, LARGEST);
        edge.all("change(0, #)", -1, what -> box.change(0, what), LEAST, -1, 2, LARGEST);
        edge.is("of a run without CHANGES", Programs.ran("SET 0 1").change(0, 0), -1);
        edge.all("without a run, change(0, #)", -1, what -> toAndFro().change(0, what), 0, 1, 2);
    }

    private void step() {
        edge.sentence(11, "Of step s (1 ..): 0 THREAD, 1 INSTRUCTION, 2 OP, 3 the PLACE that it read, 4 wrote (-2: none),");
        ReplayBox box = Programs.ran("START 3; GET 0 11; PUT 11 0; SET 0 1;" + "SET 0 1;".repeat(19) + "END", "", "",
                "SET 0 1");
        int[][] want = {{0, 0, 17, -2, -2}, {0, 1, 1, 11, -2}, {0, 2, 2, -2, 11}};
        for (int s = 1; s <= 3; s++) {
            for (int what = 0; what <= 4; what++) {
                edge.is("step(" + s + ", " + what + ")", box.step(s, what), want[s - 1][what]);
            }
        }
        edge.is("INSTRUCTION 23", box.step(24, 1), 23);
        edge.is("OP 19", box.step(24, 2), 19);
        edge.is("THREAD 3", box.step(25, 0), 3);
        edge.is("step 300", Programs.ran("GO 0").step(300, 2), 6);
        edge.is("a GET of CELL 0", Programs.ran("GET 0 0").step(1, 3), 0);

        edge.sentence(11, "5 1 if it took a LOCK, 2 left one, 3 was a WORD, 4 STARTED a THREAD, else 0.");
        ReplayBox gates = gateSteps();
        int[] marks = {0, 0, 4, 0, 1, 2, 0, 1, 3, 2, 0, 1, 0};
        for (int s = 1; s <= marks.length; s++) {
            edge.is("step(" + s + ", 5)", gates.step(s, 5), marks[s - 1]);
        }
        edge.is("a TAKE that FAILS", Programs.ran("LOCK 0; TAKE 0; TAKE 0").step(3, 5), 0);
        edge.is("a LEAVE that FAILS", Programs.ran("LOCK 0; LEAVE 0").step(2, 5), 0);
        edge.is("a WAIT that FAILS", Programs.ran("LOCK 0 1; WAIT 0").step(2, 5), 0);
        edge.is("a START that FAILS", Programs.ran("START 0").step(1, 5), 0);

        edge.sentence(11, "-1.");
        edge.all("step(#, 0)", -1, s -> box.step(s, 0), LEAST, -1, 0, 26, 300, 301, LARGEST);
        edge.all("step(1, #)", -1, what -> box.step(1, what), LEAST, -1, 6, LARGEST);
        edge.is("step 25 of 25", box.step(25, 5), 0);
        edge.is("step 301 of 300", Programs.ran("GO 0").step(301, 0), -1);
        edge.is("step 1 of none", Programs.ran("").step(1, 0), -1);
        edge.all("without a run, step(#, 0)", -1, s -> Programs.box("GO 0").step(s, 0), 0, 1, 300);
    }

    private void played(String what, ReplayBox box, int n, int m, int steps, int ended) {
        edge.is(what + ": play(" + n + ", " + m + ")", box.play(n, m), steps);
        edge.is(what + ": ended()", box.ended(), ended);
    }

    private static void put(ReplayBox box, int thread, String program) {
        box.clear(thread);
        Programs.add(box, thread, program);
    }

    // Its CHANGES: behind 2 steps THREAD 1, behind 6 THREAD 0.
    private static ReplayBox twoChanges() {
        ReplayBox box = Programs.box("START 1; SET 0 1; SET 0 2; SET 0 3; SET 0 4",
                "SET 0 1; SET 0 2; SET 0 3; SET 0 4");
        box.turn(0, 2);
        box.turn(1, 4);
        box.run();
        return box;
    }

    private void playKnown() {
        edge.sentence(12, "THE RECORD, of which only the first n CHANGES and m INPUTS are known, is gone by with the program as it is now (CELLS at first, too):");
        ReplayBox inputs = Programs.box("INPUT 0; PUT 0 0; GO 0");
        for (int k = 1; k <= 30; k++) {
            inputs.input(k);
        }
        inputs.run();
        played("no INPUT", inputs, 0, 0, 0, 2);
        played("one INPUT", inputs, 0, 1, 3, 2);
        played("29 INPUTS", inputs, 0, 29, 87, 2);
        played("all INPUTS", inputs, 0, 30, 90, 2);
        put(inputs, 0, "INPUT 0; SET 1 -30; ADD 1 0; UNLESS 1 5; GO 0; FAIL 0 3");
        played("the last one is the run's", inputs, 0, 30, 29 * 5 + 5, 3);
        ReplayBox few = Programs.box("INPUT 0");
        few.input(1);
        few.run();
        few.input(2);
        put(few, 0, "INPUT 0; INPUT 0");
        played("INPUTS that came since are not known", few, 0, 1, 1, 2);
        ReplayBox cells = Programs.ran("GET 0 11; UNLESS 0 3; FAIL; SET 1 1");
        played("CELL 11 as it was", cells, 0, 0, 3, 0);
        cells.cell(11, LEAST);
        played("CELL 11 as it is now", cells, 0, 0, 3, 3);
        cells.clear(0);
        played("INSTRUCTIONS as they are now: none", cells, 0, 0, 0, 0);
    }

    private void playSteps() {
        edge.sentence(12, "how many steps could be done till there is none more, or 300:");
        ReplayBox box = Programs.ran("");
        played("none", box, 0, 0, 0, 0);
        put(box, 0, STEPS_299);
        played("299", box, 0, 0, 299, 0);
        put(box, 0, STEPS_299 + "SET 3 1");
        played("300", box, 0, 0, 300, 0);
        put(box, 0, STEPS_299 + "SET 3 1; SET 3 1");
        played("300 of 301", box, 0, 0, 300, 4);
        ReplayBox hands = toAndFro();
        hands.run();
        played("all 74 CHANGES", hands, 74, 0, 300, 4);
        played("half of them", hands, 37, 0, 300, 4);
    }

    private void playTold() {
        edge.sentence(12, "up to the step of the last CHANGE that is known the THREAD goes that the latest CHANGE told (at first 0),");
        ReplayBox two = twoChanges();
        put(two, 1, "SET 0 1; SET 0 2; SET 0 3; SET 0 4; FAIL");
        played("behind 6 steps THREAD 0 goes, though 1 CAN: it FAILS behind 9", two, 2, 0, 10, 3);
        played("it isn't known that THREAD 0 goes then", two, 1, 0, 7, 3);
        played("it isn't known that THREAD 1 goes behind 2", two, 0, 0, 10, 3);
        put(two, 0, "START 1; SET 0 1; FAIL");
        played("behind 2 steps THREAD 1 goes, though 0 CAN", two, 2, 0, 7, 3);
        played("at first THREAD 0", two, 0, 0, 3, 3);
    }

    private void playOn() {
        edge.sentence(12, "from there on that one as long as it CAN, then the least one that CAN, and so on;");
        ReplayBox three = Programs.box("START 1; START 2; SET 0 1", "SET 0 1; SET 0 2", "SET 0 1; SET 0 2");
        three.turn(0, 2);
        three.turn(2, 1);
        three.run();
        put(three, 2, "SET 0 1; SET 0 2; FAIL");
        played("THREAD 2 as long as it CAN", three, 1, 0, 5, 3);
        put(three, 2, "SET 0 1");
        put(three, 0, "START 1; START 2; SET 0 1; FAIL");
        played("then THREAD 0", three, 1, 0, 5, 3);
        put(three, 0, "START 1; START 2; SET 0 1");
        put(three, 1, "SET 0 1; FAIL");
        played("then THREAD 1", three, 1, 0, 6, 3);
        three.turn(1, 9);
        played("TURNS are none of it", three, 1, 0, 6, 3);
    }

    private void playEnds() {
        edge.sentence(12, "it ends where a THREAD that is told can't go, where an INPUT that isn't known is asked for, and where a step FAILS (which counts).");
        ReplayBox two = twoChanges();
        put(two, 1, "SET 0 1; SET 0 2; SET 0 3");
        played("THREAD 1 is told a fourth step, and has ENDED", two, 2, 0, 5, 1);
        played("it isn't told one", two, 1, 0, 8, 0);
        two.clear(1);
        played("THREAD 1 can't go at its CHANGE", two, 2, 0, 2, 1);
        played("at its CHANGE, the last one known", two, 1, 0, 2, 1);
        played("without its CHANGE", two, 0, 0, 5, 0);
        put(two, 0, "START 1");
        played("THREAD 0 can't go a second step that is told", two, 1, 0, 1, 1);
        put(two, 0, "START 1; INPUT 0");
        played("INPUT of a THREAD that is told", two, 1, 0, 1, 2);
        put(two, 0, "INPUT 0");
        played("INPUT as the first step", two, 0, 0, 0, 2);
        put(two, 0, "FAIL 0 9");
        played("FAILS as the first step", two, 0, 0, 1, 3);
        put(two, 0, STEPS_299 + "FAIL");
        played("FAILS as step 300", two, 0, 0, 300, 3);
        put(two, 0, STEPS_299 + "INPUT 0");
        played("INPUT as step 300", two, 0, 0, 299, 2);
        put(two, 0, STEPS_299 + "SET 3 1; INPUT 0");
        played("INPUT as step 301", two, 0, 0, 300, 4);
    }

    private void playRefusals() {
        edge.sentence(12, "-1: n or m is below 0, or above how many there are;");
        ReplayBox box = twoChanges();
        edge.all("play(#, 0)", -1, n -> box.play(n, 0), LEAST, -1, 3, LARGEST);
        edge.all("play(0, #)", -1, m -> box.play(0, m), LEAST, -1, 1, LARGEST);
        edge.is("play(2, 0)", box.play(2, 0), 9);
        ReplayBox inputs = Programs.box("INPUT 0; INPUT 0");
        inputs.input(1);
        inputs.input(2);
        inputs.input(3);
        inputs.run();
        edge.is("the third INPUT wasn't taken", inputs.play(0, 3), -1);
        edge.is("the second was", inputs.play(0, 2), 2);
        edge.is("there is no CHANGE", inputs.play(1, 0), -1);

        edge.sentence(12, "-2: there was no run.");
        ReplayBox fresh = toAndFro();
        edge.all("play(#, #)", -2, n -> fresh.play(n, n), LEAST, -1, 0, 1, LARGEST);
    }

    private void ended() {
        edge.sentence(13, "Why the latest play() ended: 0 no THREAD CAN GO, 1 one that is told can't go, 2 an INPUT isn't known, 3 FAILED, 4 300 steps, and a THREAD CAN GO;");
        ReplayBox box = twoChanges();
        played("all have ENDED", box, 2, 0, 9, 0);
        put(box, 0, "LOCK 0 1; TAKE 0; WAIT 0");
        played("ASLEEP", box, 0, 0, 3, 0);
        played("told, and ASLEEP", box, 2, 0, 2, 1);
        put(box, 0, "INPUT 0");
        played("INPUT", box, 0, 0, 0, 2);
        put(box, 0, "FAIL");
        played("FAIL", box, 0, 0, 1, 3);
        put(box, 0, "GO 0");
        played("for ever", box, 0, 0, 300, 4);
        edge.is("a refused play() isn't the latest", box.play(-1, 0), -1);
        edge.is("ended() behind it", box.ended(), 4);
        put(box, 0, STEPS_299 + "SET 3 1");
        played("300 steps, and no THREAD CAN GO", box, 0, 0, 300, 0);
        box.run();
        box.find(0, 1);
        edge.is("behind a run and a find(), too", box.ended(), 0);

        edge.sentence(13, "-2: there was none.");
        ReplayBox fresh = Programs.box("GO 0");
        edge.is("ahead of a run", fresh.ended(), -2);
        edge.is("a play() that is refused", fresh.play(0, 0), -2);
        edge.is("it is none", fresh.ended(), -2);
        fresh.run();
        edge.is("ahead of a play()", fresh.ended(), -2);
        edge.is("another one that is refused", fresh.play(0, 1), -1);
        edge.is("it is none, too", fresh.ended(), -2);
        fresh.play(0, 0);
        edge.is("behind a play()", fresh.ended(), 4);
    }
}
