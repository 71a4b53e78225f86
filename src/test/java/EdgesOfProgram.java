/** The sentences of the Terms under THE PROGRAM, and of promises 1 to 7. */
final class EdgesOfProgram {
    private static final int LEAST = Edges.LEAST;
    private static final int LARGEST = Edges.LARGEST;
    private static final int TERMS = Edges.TERMS;
    private final Edges edge;

    private EdgesOfProgram(Edges edge) {
        this.edge = edge;
    }

    static void look(Edges edge) {
        EdgesOfProgram edges = new EdgesOfProgram(edge);
        edges.terms();
        edges.newObject();
        edges.code();
        edges.clear();
        edges.cell();
        edges.input();
        edges.turn();
        edges.freely();
    }

    private void terms() {
        calls();
        threads();
        instructions();
        cells();
        values();
        things();
        locals();
        started();
        ended();
    }

    private void calls() {
        edge.sentence(TERMS, "An object is used for at most 512 calls after it has been made; what later calls answer is free.");
        ReplayBox box = new ReplayBox();
        edge.is("call 1", box.code(0, 6, 0, 0, 0), 0);
        for (int call = 2; call <= 510; call++) {
            edge.is("call " + call + ", a run", box.run(), 3);
        }
        edge.is("call 511", box.find(2, 100), 0);
        edge.is("call 512", box.told(1), 300);
    }

    private void threads() {
        edge.sentence(TERMS, "THE PROGRAM: THREADS 0 .. 3,");
        ReplayBox box = new ReplayBox();
        for (int thread = 0; thread <= 3; thread++) {
            edge.is("code(" + thread + ", ..)", box.code(thread, 0, 0, thread + 5, 0), 0);
        }
        edge.all("code(#, 0, 0, 0, 0)", -1, t -> box.code(t, 0, 0, 0, 0), LEAST, -1, 4, LARGEST);
        ReplayBox four = Programs.ran("START 1; START 2; START 3", "SET 0 6", "SET 0 7", "SET 0 8");
        edge.rows("all four go", Programs.stepThreads(four), 0, 0, 0, 1, 2, 3);
        for (int thread = 1; thread <= 3; thread++) {
            edge.is("LOCAL 0 of THREAD " + thread, four.value(thread, 0, 1), thread + 5);
        }
    }

    private void instructions() {
        edge.sentence(TERMS, "each with INSTRUCTIONS 0 .. 23 (as they come);");
        ReplayBox box = Programs.box("START 1; START 2; START 3");
        for (int thread = 0; thread <= 3; thread++) {
            for (int k = thread == 0 ? 3 : 0; k <= 23; k++) {
                edge.is("INSTRUCTION " + k + " of THREAD " + thread, box.code(thread, 0, k, 100 * thread + k, 0), k);
            }
        }
        edge.all("one more for THREAD #", -2, t -> box.code(t, 0, 0, 0, 0), 0, 1, 2, 3);
        edge.is("all of them go", box.run(), 0);
        edge.is("steps", box.told(1), 96);
        for (int s = 1; s <= 96; s++) {
            edge.is("THREAD of step " + s, box.step(s, 0), (s - 1) / 24);
            edge.is("INSTRUCTION of step " + s, box.step(s, 1), (s - 1) % 24);
        }
        for (int thread = 0; thread <= 3; thread++) {
            edge.is("the last INSTRUCTION of THREAD " + thread, box.value(thread, 3, 1), 100 * thread + 23);
        }
    }

    private void cells() {
        edge.sentence(TERMS, "CELLS 0 .. 11, each with a NUMBER that it holds at first (0 if not told).");
        ReplayBox box = new ReplayBox();
        for (int cell = 0; cell <= 11; cell += 11) {
            edge.is("cell(" + cell + ", 7)", box.cell(cell, cell + 7), 0);
        }
        edge.all("cell(#, 1)", -1, c -> box.cell(c, 1), LEAST, -1, 12, LARGEST);
        box.run();
        edge.is("CELL 0", Programs.cell(box, 0), 7);
        edge.is("CELL 11", Programs.cell(box, 11), 18);
        edge.all("CELL #, not told", 0, c -> Programs.cell(box, c), 1, 2, 3, 4, 5, 6, 7, 8, 9, 10);
        edge.all("KIND of CELL #", 0, c -> box.value(-1, c, 0), 0, 1, 2, 3, 4, 5, 6, 7, 8, 9, 10, 11);
        edge.argument("CELL #", c -> Programs.cell(box, c), LEAST, -1, 12, LARGEST);
    }

    private int reckoned(String op, int x, int y) {
        return Programs.ran("SET 0 " + x + "; SET 1 " + y + "; " + op + " 0 1").value(0, 0, 1);
    }

    private void values() {
        edge.sentence(TERMS, "A VALUE is a NUMBER (an int, wraps) or a THING: a ROW of NUMBERS, a LOCK, a GATE (which is a LOCK, too).");
        edge.is("LARGEST + 1", reckoned("ADD", LARGEST, 1), LEAST);
        edge.is("LARGEST + LARGEST", reckoned("ADD", LARGEST, LARGEST), -2);
        edge.is("LEAST + LEAST", reckoned("ADD", LEAST, LEAST), 0);
        edge.is("LEAST + -1", reckoned("ADD", LEAST, -1), LARGEST);
        edge.is("LEAST - 1", reckoned("LESS", LEAST, 1), LARGEST);
        edge.is("LARGEST - -1", reckoned("LESS", LARGEST, -1), LEAST);
        edge.is("0 - LEAST", reckoned("LESS", 0, LEAST), LEAST);
        edge.is("LEAST * -1", reckoned("TIMES", LEAST, -1), LEAST);
        edge.is("LARGEST * LARGEST", reckoned("TIMES", LARGEST, LARGEST), 1);
        edge.is("65536 * 65536", reckoned("TIMES", 65536, 65536), 0);
        edge.is("65536 * 32768", reckoned("TIMES", 65536, 32768), LEAST);
        ReplayBox box = Programs.ran("SET 1 1; ROW 0 1; LOCK 1; LOCK 2 1; TAKE 2; LEAVE 2");
        edge.is("a GATE is taken and left as a LOCK", box.told(0), 0);
        edge.is("KIND of a ROW", box.value(0, 0, 0), 1);
        edge.is("KIND of a LOCK", box.value(0, 1, 0), 2);
        edge.is("KIND of a GATE", box.value(0, 2, 0), 3);
        edge.is("KIND of a NUMBER", box.value(0, 3, 0), 0);
    }

    private void things() {
        edge.sentence(TERMS, "THINGS are numbered as they are made in a run, 0 .. 11.");
        ReplayBox box = Programs.box("LOCK 0; ROW 0 1; LOCK 0 1; GO 0");
        for (int run = 1; run <= 2; run++) {
            edge.is("run " + run + " makes one too many", box.run(), 2);
            edge.is("THINGS of run " + run, box.told(4), 12);
            for (int x = 0; x <= 11; x++) {
                // Three THINGS, then a GO.
                box.to(x + 1 + x / 3);
                edge.is("number of THING " + x + " in run " + run, box.value(0, 0, 1), x);
                edge.is("KIND of THING " + x + " in run " + run, box.thing(x, 0), new int[] {2, 1, 3}[x % 3]);
                edge.is("the next one is not yet", box.thing(x + 1, 0), -1);
            }
        }
        box.to(box.told(1));
        edge.all("THING #", -1, x -> box.thing(x, 0), LEAST, -1, 12, LARGEST);
    }

    private void locals() {
        edge.sentence(TERMS, "Each THREAD has LOCALS 0 .. 3 (NUMBER 0 at first).");
        ReplayBox box = Programs.ran("SET 0 10; SET 1 11; SET 2 12; SET 3 13; START 3", "", "", "SET 3 33");
        for (int k = 0; k <= 3; k++) {
            edge.is("LOCAL " + k + " of THREAD 0", box.value(0, k, 1), 10 + k);
        }
        edge.is("LOCAL 3 of THREAD 3", box.value(3, 3, 1), 33);
        for (int thread = 0; thread <= 3; thread++) {
            int t = thread;
            edge.argument("LOCAL # of THREAD " + t, k -> box.value(t, k, 1), LEAST, -1, 4, LARGEST);
        }
        box.to(0);
        for (int thread = 0; thread <= 3; thread++) {
            int t = thread;
            edge.all("at first LOCAL # of THREAD " + t, 0, k -> box.value(t, k, 1), 0, 1, 2, 3);
            edge.all("at first KIND of LOCAL # of THREAD " + t, 0, k -> box.value(t, k, 0), 0, 1, 2, 3);
        }
        box.run();
        box.to(0);
        edge.is("at first of a second run", box.value(0, 3, 1), 0);
    }

    private void started() {
        edge.sentence(TERMS, "In a run THREAD 0 is STARTED at first.");
        ReplayBox box = Programs.ran("SET 0 1", "SET 0 1", "SET 0 1", "SET 0 1");
        edge.is("only its step is done", box.told(1), 1);
        box.to(0);
        edge.is("THREAD 0", box.thread(0, 1), 1);
        edge.all("THREAD #", 0, t -> box.thread(t, 1), 1, 2, 3);
        ReplayBox others = Programs.ran("", "SET 0 1", "SET 0 1", "SET 0 1");
        edge.is("nobody else begins", others.told(1), 0);
        edge.is("THREAD 0 without INSTRUCTIONS is STARTED, and has ENDED", others.thread(0, 1), 4);
        ReplayBox again = Programs.box("START 1");
        again.run();
        edge.is("in a second run THREAD 1 is to be STARTED anew", again.run(), 0);
    }

    private void ended() {
        edge.sentence(TERMS, "A THREAD whose next INSTRUCTION there is not has ENDED.");
        edge.is("behind the last one", Programs.ran("SET 0 1").thread(0, 1), 4);
        edge.is("without any", Programs.ran("").thread(0, 1), 4);
        for (int next : new int[] {LEAST, -1, 2, 23, 24, LARGEST}) {
            ReplayBox box = Programs.ran("GO " + next + "; SET 0 1");
            edge.is("behind GO " + next + " of two INSTRUCTIONS", box.thread(0, 1), 4);
            edge.is("steps with GO " + next, box.told(1), 1);
        }
        ReplayBox last = Programs.ran("GO 1; SET 0 1");
        edge.is("GO to the last one there is", last.told(1), 2);
        last.to(1);
        edge.is("it hasn't ENDED there", last.thread(0, 1), 1);
        ReplayBox full = Programs.ran("GO 23" + "; SET 0 1".repeat(23));
        edge.is("GO to INSTRUCTION 23 of 24", full.told(1), 2);
    }

    private void newObject() {
        edge.sentence(1, "No INSTRUCTIONS, INPUTS, TURNS;");
        ReplayBox box = new ReplayBox();
        edge.all("clear(#)", 0, box::clear, 0, 1, 2, 3);
        edge.is("freely()", box.freely(), 0);
        edge.is("the first INPUT", box.input(5), 1);
        edge.all("the first INSTRUCTION of THREAD #", 0, t -> box.code(t, 19, 0, 0, 0), 0, 1, 2, 3);
        edge.is("the first TURN", box.turn(0, 1), 1);

        edge.sentence(1, "CELLS hold 0;");
        ReplayBox cells = Programs.ran("");
        edge.all("KIND of CELL #", 0, c -> cells.value(-1, c, 0), 0, 1, 2, 3, 4, 5, 6, 7, 8, 9, 10, 11);
        edge.all("CELL #", 0, c -> cells.value(-1, c, 1), 0, 1, 2, 3, 4, 5, 6, 7, 8, 9, 10, 11);

        edge.sentence(1, "there was no run.");
        ReplayBox none = new ReplayBox();
        edge.all("told(#)", -2, none::told, 0, 1, 2, 3, 4, 5, 6, 7);
        edge.is("ended()", none.ended(), -2);
        edge.is("to(0)", none.to(0), -2);
        edge.is("back(0)", none.back(0), -2);
        edge.state("value(-1, #, 1)", c -> none.value(-1, c, 1), 0, 11);
        edge.is("change(0, 0)", none.change(0, 0), -1);
        edge.is("step(1, 0)", none.step(1, 0), -1);
    }

    private void code() {
        edge.sentence(2, "An INSTRUCTION comes to a THREAD: its number.");
        ReplayBox box = new ReplayBox();
        edge.is("the first one", box.code(3, 19, LEAST, LARGEST, LEAST), 0);
        edge.is("the second one", box.code(3, 0, LARGEST, LEAST, LARGEST), 1);
        edge.is("the first one of another THREAD", box.code(0, 0, 0, 0, 0), 0);
        for (int k = 2; k <= 23; k++) {
            edge.is("INSTRUCTION " + k, box.code(3, 0, 0, 0, 0), k);
        }
        box.clear(3);
        edge.is("the first one behind clear", box.code(3, 0, 0, 0, 0), 0);

        edge.sentence(2, "-1: no such THREAD, OP;");
        edge.all("code(#, 0, 0, 0, 0)", -1, t -> box.code(t, 0, 0, 0, 0), LEAST, -1, 4, LARGEST);
        edge.all("code(1, #, 0, 0, 0)", -1, op -> box.code(1, op, 0, 0, 0), LEAST, -1, 20, LARGEST);
        edge.is("code(1, 0, ..)", box.code(1, 0, 0, 0, 0), 0);
        edge.is("code(1, 19, ..)", box.code(1, 19, 0, 0, 0), 1);
        edge.is("code(-1, 20, ..)", box.code(-1, 20, 0, 0, 0), -1);

        edge.sentence(2, "-2: it has 24.");
        ReplayBox full = Programs.box("SET 0 1" + "; SET 0 1".repeat(22));
        edge.is("the 24th", full.code(0, 0, 0, 9, 0), 23);
        edge.all("the #th", -2, n -> full.code(0, 0, 0, n, 0), 25, 26);
        edge.is("no such OP comes first", full.code(0, 20, 0, 0, 0), -1);
        edge.is("another THREAD has none", full.code(1, 0, 0, 0, 0), 0);
        full.run();
        edge.is("the 24th is the last", full.value(0, 0, 1), 9);
        edge.is("there are still 24", full.clear(0), 24);
        edge.is("then there is room", full.code(0, 0, 0, 0, 0), 0);
    }

    private void clear() {
        edge.sentence(3, "All INSTRUCTIONS of a THREAD go: how many.");
        ReplayBox box = Programs.box("SET 0 1" + "; SET 0 1".repeat(23), "SET 0 1", "", "SET 0 1; SET 0 2");
        edge.is("of none", box.clear(2), 0);
        edge.is("of 24", box.clear(0), 24);
        edge.is("again", box.clear(0), 0);
        edge.is("of one", box.clear(1), 1);
        edge.is("of the last THREAD", box.clear(3), 2);
        box.run();
        edge.is("none is left", box.told(1), 0);

        edge.sentence(3, "-1.");
        edge.all("clear(#)", -1, box::clear, LEAST, -1, 4, LARGEST);
    }

    private void cell() {
        edge.sentence(4, "The NUMBER that a CELL holds at first is v: 0.");
        ReplayBox box = Programs.box("SET 0 3; PUT 5 0");
        edge.is("cell(0, LEAST)", box.cell(0, LEAST), 0);
        edge.is("cell(11, LARGEST)", box.cell(11, LARGEST), 0);
        edge.is("cell(5, 8)", box.cell(5, 8), 0);
        edge.is("cell(5, 9)", box.cell(5, 9), 0);
        box.run();
        edge.is("CELL 0", Programs.cell(box, 0), LEAST);
        edge.is("CELL 11", Programs.cell(box, 11), LARGEST);
        edge.is("CELL 5 behind PUT", Programs.cell(box, 5), 3);
        box.cell(0, 1);
        box.to(0);
        edge.is("CELL 5 at first: the latest told", Programs.cell(box, 5), 9);
        edge.is("CELL 0 of the run that was", Programs.cell(box, 0), LEAST);
        box.run();
        edge.is("CELL 0 of the next run", Programs.cell(box, 0), 1);

        edge.sentence(4, "-1.");
        edge.all("cell(#, 1)", -1, c -> box.cell(c, 1), LEAST, -1, 12, LARGEST);
    }

    private void input() {
        edge.sentence(5, "An INPUT comes behind the others: how many.");
        ReplayBox box = Programs.box("INPUT 0; PUT 0 0; GO 0");
        edge.is("input(LEAST)", box.input(LEAST), 1);
        edge.is("input(LARGEST)", box.input(LARGEST), 2);
        for (int k = 3; k <= 30; k++) {
            edge.is("input(" + k + ")", box.input(k), k);
        }
        box.run();
        for (int k = 1; k <= 30; k++) {
            box.to(3 * k - 1);
            edge.is("INPUT " + k, Programs.cell(box, 0), k == 1 ? LEAST : k == 2 ? LARGEST : k);
        }

        edge.sentence(5, "-2: there are 30.");
        edge.all("input(#)", -2, box::input, LEAST, -1, 0, LARGEST);
        edge.is("the run still FAILS behind 30", box.run(), 2);
        edge.is("INPUTS taken", box.told(6), 30);
    }

    private void turn() {
        edge.sentence(6, "A TURN comes to THE SCHEDULE, of 1 .. 100 steps: how many TURNS.");
        ReplayBox box = Programs.box("START 1; GO 1", "GO 0");
        edge.is("turn(0, 100)", box.turn(0, 100), 1);
        edge.is("turn(1, 1)", box.turn(1, 1), 2);
        edge.is("turn(3, 1)", box.turn(3, 1), 3);
        edge.is("turn(0, 99)", box.turn(0, 99), 4);
        edge.is("turn(1, 100)", box.turn(1, 100), 5);
        box.run();
        edge.is("step 100", box.step(100, 0), 0);
        edge.is("step 101", box.step(101, 0), 1);
        edge.is("step 102", box.step(102, 0), 0);
        edge.is("step 200", box.step(200, 0), 0);
        edge.is("step 201", box.step(201, 0), 1);
        edge.is("CHANGES", box.told(5), 3);

        edge.sentence(6, "-1;");
        edge.all("turn(#, 1)", -1, t -> box.turn(t, 1), LEAST, -1, 4, LARGEST);
        edge.all("turn(0, #)", -1, n -> box.turn(0, n), LEAST, -1, 0, 101, LARGEST);
        edge.is("the next TURN", box.turn(0, 1), 6);

        edge.sentence(6, "-2.");
        ReplayBox full = new ReplayBox();
        for (int k = 1; k <= 40; k++) {
            edge.is("TURN " + k, full.turn(k % 4, 1), k);
        }
        edge.all("TURN 41, of # steps", -2, n -> full.turn(0, n), 1, 100);
        edge.all("no such number of steps comes first: #", -1, n -> full.turn(0, n), 0, 101);
        edge.all("no such THREAD comes first: #", -1, t -> full.turn(t, 1), -1, 4);
        edge.is("there are still 40", full.freely(), 40);
    }

    private void freely() {
        edge.sentence(7, "THE SCHEDULE has no TURNS: how many it had.");
        ReplayBox box = Programs.box("START 1; GO 1", "GO 0");
        edge.is("of none", box.freely(), 0);
        box.turn(0, 1);
        edge.is("of one", box.freely(), 1);
        for (int k = 0; k < 40; k++) {
            box.turn(k % 2, 2);
        }
        edge.is("of 40", box.freely(), 40);
        edge.is("again", box.freely(), 0);
        box.run();
        edge.is("no CHANGE without TURNS", box.told(5), 0);
        edge.is("the first TURN anew", box.turn(0, 2), 1);
        box.run();
        edge.is("no CHANGE with it alone", box.told(5), 0);
        edge.is("the second TURN anew", box.turn(1, 2), 2);
        box.run();
        edge.is("one CHANGE with both", box.told(5), 1);
    }
}
