/** The sentences of the Terms on INSTRUCTIONS, the OPS and their FAILURES. */
final class EdgesOfOps {
    private static final int LEAST = Edges.LEAST;
    private static final int LARGEST = Edges.LARGEST;
    private static final int TERMS = Edges.TERMS;
    // These numbers, and what they are modulo 4, 12 and 10, from 0 on.
    private static final int[] NUMBERS = {LEAST, -13, -12, -11, -10, -5, -4, -1, 0, 3, 4, 9, 10, 11, 12, LARGEST};
    private static final int[] MODULO_4 = {0, 3, 0, 1, 2, 3, 0, 3, 0, 3, 0, 1, 2, 3, 0, 3};
    private static final int[] MODULO_12 = {4, 11, 0, 1, 2, 7, 8, 11, 0, 3, 4, 9, 10, 11, 0, 7};
    private static final int[] MODULO_10 = {2, 7, 8, 9, 0, 5, 6, 9, 0, 3, 4, 9, 0, 1, 2, 7};
    private static final int KIND = 1;
    private static final int SIZE = 2;
    private static final int ROOM = 3;
    private static final int BEYOND = 4;
    private static final int HELD = 5;
    private static final int FREE = 6;
    private static final int NONE = 7;
    // THINGS 0 to 11; LOCAL 0 is a NUMBER, 1 a LOCK, 2 a GATE, 3 a ROW of 0.
    private static final String TWELVE = "LOCK 1; ".repeat(10) + "LOCK 2 1; ROW 3 0; ";
    private final Edges edge;

    private EdgesOfOps(Edges edge) {
        this.edge = edge;
    }

    static void look(Edges edge) {
        EdgesOfOps edges = new EdgesOfOps(edge);
        edges.letters();
        edges.order();
        edges.cellOps();
        edges.numberOps();
        edges.jumps();
        edges.row();
        edges.read();
        edges.write();
        edges.lock();
        edges.take();
        edges.leave();
        edges.waits();
        edges.word();
        edges.others();
        edges.woken();
        edges.next();
        edges.failures();
    }

    private static int failure(String... threads) {
        return Programs.ran(threads).told(2);
    }

    private static int local(String program, int k) {
        return Programs.ran(program).value(0, k, 1);
    }

    private void letters() {
        edge.sentence(TERMS, "INSTRUCTIONS have an OP and numbers a, b, c; A, B, C are the LOCALS of these numbers (modulo 4, from 0 on).");
        for (int k = 0; k < NUMBERS.length; k++) {
            int number = NUMBERS[k];
            int local = MODULO_4[k];
            edge.is("A of a " + number, local("SET " + number + " 77", local), 77);
            edge.is("B of b " + number, Programs.cell(Programs.ran("SET " + local + " 77; PUT 0 " + number), 0), 77);
            int other = (local + 1) % 4;
            edge.is("C of c " + number, local("SET 0 3; ROW " + other + " 0; SET " + local + " 2; WRITE " + other + " "
                    + local + " " + number + "; READ " + other + " " + other + " " + number, other), 2);
        }
    }

    private void order() {
        edge.sentence(TERMS, "What FAILS ends the run; it is looked at in the order told.");
        ReplayBox box = Programs.ran("START 1; FAIL; SET 0 1", "SET 0 1");
        edge.is("no step behind it, of either THREAD", box.told(1), 2);
        edge.is("THREAD 1 could go", box.thread(1, 1), 1);
        edge.is("KIND, then SIZE", failure("LOCK 0; ROW 1 0"), KIND);
        edge.is("SIZE, then ROOM", failure(TWELVE + "SET 0 -1; ROW 0 0"), SIZE);
        edge.is("KIND, then ROOM", failure(TWELVE + "ROW 0 1"), KIND);
        edge.is("KIND, then BEYOND, of READ", failure("SET 0 1; READ 1 0 0"), KIND);
        edge.is("KIND, then BEYOND, of WRITE", failure("ROW 0 1; SET 2 5; LOCK 3; WRITE 0 2 3"), KIND);
        edge.is("KIND, then FREE, of WAIT for a LOCK", failure("LOCK 0; WAIT 0"), KIND);
        edge.is("KIND, then FREE, of WORD of a LOCK", failure("LOCK 0; WORD 0"), KIND);
        edge.sentence(TERMS, "OPS:");
        ReplayBox ops = new ReplayBox();
        edge.all("OP #", -1, op -> ops.code(0, op, 0, 0, 0), LEAST, -1, 20, LARGEST);
        for (int op = 0; op <= 19; op++) {
            edge.is("OP " + op, ops.code(0, op, 0, 0, 0), op);
        }
    }

    private void cellOps() {
        edge.sentence(TERMS, "0 SET: A is NUMBER b.");
        for (int number : NUMBERS) {
            edge.is("SET of " + number, local("SET 2 " + number, 2), number);
        }
        edge.is("SET of one that was a THING", Programs.ran("LOCK 2; SET 2 0").value(0, 2, 0), 0);
        edge.sentence(TERMS, "1 GET: A is what CELL b (modulo 12) holds.");
        for (int k = 0; k < NUMBERS.length; k++) {
            ReplayBox box = Programs.box("GET 1 " + NUMBERS[k]);
            box.cell(MODULO_12[k], 55);
            box.run();
            edge.is("GET of CELL " + NUMBERS[k], box.value(0, 1, 1), 55);
            edge.is("its PLACE", box.step(1, 3), MODULO_12[k]);
        }
        edge.is("GET of a THING", Programs.ran("LOCK 0 1; PUT 3 0; GET 1 3").value(0, 1, 0), 3);
        edge.sentence(TERMS, "2 PUT: CELL a (modulo 12) holds what B is.");
        for (int k = 0; k < NUMBERS.length; k++) {
            ReplayBox box = Programs.ran("SET 1 55; PUT " + NUMBERS[k] + " 1");
            edge.is("PUT to CELL " + NUMBERS[k], Programs.cell(box, MODULO_12[k]), 55);
            edge.is("its PLACE", box.step(2, 4), MODULO_12[k]);
        }
        edge.is("PUT of a THING", Programs.ran("LOCK 0; LOCK 0; PUT 3 0").value(-1, 3, 1), 1);
    }

    private void numberOps() {
        edge.sentence(TERMS, "3 ADD, 4 LESS, 5 TIMES: A becomes A + B, A - B, A * B, both NUMBERS (else FAILS KIND).");
        edge.is("ADD", local("SET 0 7; SET 1 -9; ADD 0 1", 0), -2);
        edge.is("LESS", local("SET 0 7; SET 1 -9; LESS 0 1", 0), 16);
        edge.is("TIMES", local("SET 0 7; SET 1 -9; TIMES 0 1", 0), -63);
        edge.is("B is A", local("SET 0 7; LESS 0 0", 0), 0);
        for (String op : new String[] {"ADD", "LESS", "TIMES"}) {
            for (String thing : new String[] {"ROW 1 0; ", "LOCK 1; ", "LOCK 1 1; "}) {
                edge.is(op + ", A is by " + thing, failure(thing + op + " 1 0"), KIND);
                edge.is(op + ", B is by " + thing, failure(thing + op + " 0 1"), KIND);
                edge.is(op + ", both are by " + thing, failure(thing + op + " 1 1"), KIND);
            }
        }
    }

    private void jumps() {
        edge.sentence(TERMS, "6 GO: INSTRUCTION a is next.");
        String rest = "; SET 0 1".repeat(22) + "; SET 1 5";
        ReplayBox box = Programs.ran("GO 23" + rest);
        edge.is("GO 23", box.value(0, 1, 1), 5);
        edge.is("nothing between", box.value(0, 0, 1), 0);
        edge.is("GO 1", Programs.ran("GO 1" + rest).told(1), 24);
        edge.is("GO 0 to itself", Programs.ran("GO 0" + rest).told(1), 300);
        for (int next : new int[] {LEAST, -1, 24, LARGEST}) {
            edge.is("GO " + next, Programs.ran("GO " + next + rest).told(1), 1);
        }
        edge.sentence(TERMS, "7 UNLESS: A is a NUMBER (else FAILS KIND); if it is 0 INSTRUCTION b is next.");
        for (int number : new int[] {LEAST, -1, 1, LARGEST}) {
            edge.is("UNLESS " + number, Programs.ran("SET 0 " + number + "; UNLESS 0 3; SET 1 5; SET 1 6").told(1), 4);
        }
        edge.is("UNLESS 0", Programs.ran("SET 0 0; UNLESS 0 3; SET 1 5; SET 1 6").told(1), 3);
        for (int next : new int[] {LEAST, -1, 24, LARGEST}) {
            edge.is("UNLESS 0 to " + next, Programs.ran("UNLESS 0 " + next + rest).told(1), 1);
        }
        edge.is("UNLESS 0 to 23", Programs.ran("UNLESS 0 23" + rest).value(0, 1, 1), 5);
        for (String thing : new String[] {"ROW 0 1; ", "LOCK 0; ", "LOCK 0 1; "}) {
            edge.is("UNLESS of one by " + thing, failure(thing + "UNLESS 0 0"), KIND);
        }
    }

    private void row() {
        edge.sentence(TERMS, "8 ROW: A is a new ROW of B NUMBERS 0: FAILS KIND (B no NUMBER), SIZE (B below 0), ROOM (B above 16, or 12 THINGS are made).");
        for (int size : new int[] {0, 1, 15, 16}) {
            ReplayBox box = Programs.ran("SET 1 " + size + "; ROW 0 1");
            edge.is("a ROW of " + size, box.thing(0, 1), size);
            for (int i = 0; i < size; i++) {
                edge.is("place " + i + " of " + size, box.place(0, i), 0);
            }
            edge.argument("place # of " + size, i -> box.place(0, i), -1, size);
        }
        for (int size : new int[] {LEAST, -2, -1}) {
            edge.is("a ROW of " + size, failure("SET 1 " + size + "; ROW 0 1"), SIZE);
        }
        for (int size : new int[] {17, 18, LARGEST}) {
            edge.is("a ROW of " + size, failure("SET 1 " + size + "; ROW 0 1"), ROOM);
        }
        edge.is("B is a ROW", failure("ROW 0 1; ROW 1 0"), KIND);
        edge.is("B is a LOCK", failure("LOCK 0; ROW 1 0"), KIND);
        edge.is("B is a GATE", failure("LOCK 0 1; ROW 1 0"), KIND);
        edge.is("the 12th THING", Programs.ran(TWELVE).told(4), 12);
        edge.is("a 13th THING", failure(TWELVE + "ROW 0 0"), ROOM);
        edge.is("a 13th THING, too long besides", failure(TWELVE + "SET 0 17; ROW 0 0"), ROOM);
        edge.is("A is B", Programs.ran("SET 0 3; ROW 0 0").value(0, 0, 0), 1);
        ReplayBox twice = Programs.box("SET 1 1; ROW 0 1; SET 2 0; READ 3 0 2; PUT 0 3; WRITE 0 2 1");
        twice.run();
        twice.run();
        edge.is("0 in a second run, too", Programs.cell(twice, 0), 0);
    }

    private static String rowOf(int size) {
        return "SET 1 " + size + "; ROW 0 1; ";
    }

    private void read() {
        edge.sentence(TERMS, "9 READ: A is the NUMBER at place C of ROW B, from 0: FAILS KIND (B no ROW, or C no NUMBER), BEYOND.");
        String written = rowOf(16) + "SET 3 8; SET 1 0; WRITE 0 1 3; SET 3 9; SET 1 15; WRITE 0 1 3; ";
        edge.is("place 0", local(written + "SET 1 0; READ 2 0 1", 2), 8);
        edge.is("place 1", local(written + "SET 1 1; SET 2 5; READ 2 0 1", 2), 0);
        edge.is("place 15", local(written + "READ 2 0 1", 2), 9);
        for (int place : new int[] {LEAST, -1, 16, LARGEST}) {
            edge.is("place " + place + " of 16", failure(rowOf(16) + "SET 1 " + place + "; READ 2 0 1"), BEYOND);
        }
        edge.is("place 0 of 0", failure(rowOf(0) + "READ 2 0 1"), BEYOND);
        edge.is("place 1 of 1", failure(rowOf(1) + "READ 2 0 1"), BEYOND);
        edge.is("place 0 of 1", failure(rowOf(1) + "SET 1 0; READ 2 0 1"), 0);
        edge.is("B is a NUMBER", failure("READ 2 0 1"), KIND);
        edge.is("B is a LOCK", failure("LOCK 0; READ 2 0 1"), KIND);
        edge.is("B is a GATE", failure("LOCK 0 1; READ 2 0 1"), KIND);
        edge.is("C is a ROW", failure(rowOf(3) + "READ 2 0 0"), KIND);
        edge.is("C is a LOCK", failure(rowOf(3) + "LOCK 1; READ 2 0 1"), KIND);
        edge.is("A may be B", local(written + "READ 0 0 1", 0), 9);
    }

    private void write() {
        edge.sentence(TERMS, "10 WRITE: the NUMBER at place B of ROW A becomes C: FAILS KIND (A no ROW, B or C no NUMBER), BEYOND.");
        for (int place : new int[] {0, 1, 14, 15}) {
            ReplayBox box = Programs.ran(rowOf(16) + "SET 1 " + place + "; SET 2 " + LEAST + "; WRITE 0 1 2");
            edge.is("place " + place, box.place(0, place), LEAST);
            edge.is("the one beside it", box.place(0, place ^ 1), 0);
        }
        for (int place : new int[] {LEAST, -1, 16, LARGEST}) {
            edge.is("place " + place + " of 16", failure(rowOf(16) + "SET 1 " + place + "; WRITE 0 1 2"), BEYOND);
        }
        edge.is("place 0 of 0", failure(rowOf(0) + "WRITE 0 1 1"), BEYOND);
        edge.is("place 1 of 1", failure(rowOf(1) + "WRITE 0 1 1"), BEYOND);
        edge.is("place 0 of 1", failure(rowOf(1) + "SET 1 0; WRITE 0 1 1"), 0);
        edge.is("A is a NUMBER", failure("WRITE 0 1 2"), KIND);
        edge.is("A is a LOCK", failure("LOCK 0; WRITE 0 1 2"), KIND);
        edge.is("A is a GATE", failure("LOCK 0 1; WRITE 0 1 2"), KIND);
        edge.is("B is a ROW", failure(rowOf(3) + "WRITE 0 0 1"), KIND);
        edge.is("C is a ROW", failure(rowOf(3) + "SET 1 0; WRITE 0 1 0"), KIND);
        edge.is("B is a LOCK", failure(rowOf(3) + "LOCK 1; WRITE 0 1 2"), KIND);
        edge.is("C is a LOCK", failure(rowOf(3) + "SET 1 0; LOCK 2; WRITE 0 1 2"), KIND);
        ReplayBox two = Programs.ran(rowOf(16)
                + "ROW 3 1; SET 1 15; SET 2 6; WRITE 0 1 2; SET 1 0; SET 2 7; WRITE 3 1 2");
        edge.is("the last place of one ROW", two.place(0, 15), 6);
        edge.is("the first place of the next one", two.place(1, 0), 7);
    }

    private void lock() {
        edge.sentence(TERMS, "11 LOCK: A is a new LOCK, which is free, a GATE if b is odd: FAILS ROOM.");
        for (int b : new int[] {LEAST, -2, 0, 2}) {
            edge.is("KIND with b " + b, Programs.ran("LOCK 0 " + b).value(0, 0, 0), 2);
        }
        for (int b : new int[] {-3, -1, 1, 3, LARGEST}) {
            edge.is("KIND with b " + b, Programs.ran("LOCK 0 " + b).value(0, 0, 0), 3);
        }
        edge.is("a LOCK is free", Programs.ran("LOCK 0").thing(0, 1), -2);
        edge.is("a GATE is free", Programs.ran("LOCK 0 1").thing(0, 1), -2);
        ReplayBox twice = Programs.box("LOCK 0; TAKE 0");
        twice.run();
        twice.run();
        twice.to(1);
        edge.is("it is free in a second run, too", twice.thing(0, 1), -2);
        edge.is("a 13th THING that is a LOCK", failure(TWELVE + "LOCK 0"), ROOM);
        edge.is("a 13th THING that is a GATE", failure(TWELVE + "LOCK 0 1"), ROOM);
        edge.is("the 12th THING may be one", failure(TWELVE.replace("ROW 3 0", "LOCK 3")), 0);
    }

    private void take() {
        edge.sentence(TERMS, "12 TAKE LOCK A: FAILS KIND (no LOCK), HELD (it is the THREAD's own): it is its own; the THREAD can't go while it is another one's.");
        edge.is("a NUMBER", failure("TAKE 0"), KIND);
        edge.is("a ROW", failure("ROW 0 1; TAKE 0"), KIND);
        edge.is("its own LOCK", failure("LOCK 0; TAKE 0; TAKE 0"), HELD);
        edge.is("its own GATE", failure("LOCK 0 1; TAKE 0; TAKE 0"), HELD);
        edge.is("one that it had, and left", failure("LOCK 0; TAKE 0; LEAVE 0; TAKE 0"), 0);
        for (String gate : new String[] {"LOCK 0", "LOCK 0 1"}) {
            ReplayBox box = Programs.ran(gate + "; PUT 0 0; TAKE 0; START 3; LEAVE 0; SET 1 1", "", "",
                    "GET 0 0; TAKE 0");
            edge.is("it is THREAD 3's own", box.thing(0, 1), 3);
            box.to(3);
            edge.is("it is THREAD 0's own", box.thing(0, 1), 0);
            box.clear(0);
            Programs.add(box, 0, gate + "; PUT 0 0; TAKE 0; START 3");
            edge.is("THREAD 3 is STUCK at it", box.run(), 1);
            edge.is("it can't go", box.thread(3, 1), 2);
        }
        ReplayBox others = Programs.ran("LOCK 0; LOCK 3 1; PUT 0 3; TAKE 3 0 0; START 1; LEAVE 3 0 0; TAKE 0 3 3",
                "GET 2 0; TAKE 2 0 1");
        edge.is("A alone is taken, whatever B and C are", others.told(0), 0);
        others.to(5);
        edge.is("the one that is taken", others.thing(1, 1), 0);
        edge.is("the one that isn't", others.thing(0, 1), -2);
        others.turn(0, 5);
        others.turn(1, 9);
        others.run();
        others.to(6);
        edge.is("it can't go at A, whatever B and C are", others.thread(1, 1), 2);
        edge.is("the next step is THREAD 0's", others.step(7, 0), 0);
    }

    private void leave() {
        edge.sentence(TERMS, "13 LEAVE LOCK A: FAILS KIND, FREE (it isn't its own): it is free.");
        edge.is("a NUMBER", failure("LEAVE 0"), KIND);
        edge.is("a ROW", failure("ROW 0 1; LEAVE 0"), KIND);
        edge.is("a free LOCK", failure("LOCK 0; LEAVE 0"), FREE);
        edge.is("a free GATE", failure("LOCK 0 1; LEAVE 0"), FREE);
        edge.is("one that it has left", failure("LOCK 0; TAKE 0; LEAVE 0; LEAVE 0"), FREE);
        edge.is("another one's", failure("LOCK 0; PUT 0 0; TAKE 0; START 1", "GET 0 0; LEAVE 0"), FREE);
        edge.is("its own, then", Programs.ran("LOCK 0; TAKE 0; LEAVE 0").thing(0, 1), -2);
        edge.is("its own GATE, then", Programs.ran("LOCK 0 1; TAKE 0; LEAVE 0").thing(0, 1), -2);
    }

    private void waits() {
        edge.sentence(TERMS, "14 WAIT for GATE A: FAILS KIND (no GATE), FREE (it isn't its own): it is free, and the THREAD is ASLEEP at it; the same INSTRUCTION is next.");
        edge.is("a NUMBER", failure("WAIT 0"), KIND);
        edge.is("a ROW", failure("ROW 0 1; WAIT 0"), KIND);
        edge.is("its own LOCK that is no GATE", failure("LOCK 0; TAKE 0; WAIT 0"), KIND);
        edge.is("a free GATE", failure("LOCK 0 1; WAIT 0"), FREE);
        edge.is("another one's", failure("LOCK 0 1; PUT 0 0; TAKE 0; START 1", "GET 0 0; WAIT 0"), FREE);
        ReplayBox box = Programs.ran("LOCK 0 1; TAKE 0; WAIT 0; SET 1 1");
        edge.is("it is STUCK", box.told(0), 1);
        edge.is("the GATE is free", box.thing(0, 1), -2);
        edge.is("the THREAD is ASLEEP", box.thread(0, 1), 3);
        edge.is("the same INSTRUCTION is next", box.thread(0, 0), 2);
        edge.is("as the last one of its THREAD, too", Programs.ran("LOCK 0 1; TAKE 0; WAIT 0").thread(0, 0), 2);
        ReplayBox others = Programs.ran("LOCK 0 1; LOCK 2 1; TAKE 0; TAKE 2; WAIT 2 0 0");
        edge.is("A alone is free, whatever B and C are", others.thing(1, 1), -2);
        edge.is("the other one isn't", others.thing(0, 1), 0);
    }

    private static ReplayBox sleepers() {
        ReplayBox box = Programs.box("LOCK 0 1; PUT 0 0; START 1; START 2; START 3; TAKE 0; WORD 0; LEAVE 0",
                "GET 0 0; TAKE 0; WAIT 0", "GET 0 0; TAKE 0; WAIT 0", "LOCK 0 1; TAKE 0; WAIT 0");
        box.turn(0, 5);
        box.turn(1, 3);
        box.turn(2, 3);
        box.turn(3, 3);
        box.run();
        return box;
    }

    private void word() {
        edge.sentence(TERMS, "15 WORD: of GATE A: FAILS KIND, FREE: all THREADS that are ASLEEP at it are WOKEN.");
        edge.is("a NUMBER", failure("WORD 0"), KIND);
        edge.is("a ROW", failure("ROW 0 1; WORD 0"), KIND);
        edge.is("its own LOCK that is no GATE", failure("LOCK 0; TAKE 0; WORD 0"), KIND);
        edge.is("a free GATE", failure("LOCK 0 1; WORD 0"), FREE);
        edge.is("another one's", failure("LOCK 0 1; PUT 0 0; TAKE 0; START 1", "GET 0 0; WORD 0"), FREE);
        edge.is("A alone counts, whatever B and C are", failure("LOCK 2 1; TAKE 2; WORD 2 0 1"), 0);
        edge.is("nobody is ASLEEP", Programs.ran("LOCK 0 1; TAKE 0; WORD 0; SET 1 4").value(0, 1, 1), 4);
        ReplayBox box = sleepers();
        box.to(15);
        edge.all("THREAD # ahead of WORD", 3, t -> box.thread(t, 1), 1, 2, 3);
        box.to(16);
        edge.all("WOKEN, THREAD # can't go yet", 2, t -> box.thread(t, 1), 1, 2);
        edge.is("THREAD 3, at another GATE", box.thread(3, 1), 3);
        edge.is("the GATE is still its own", box.thing(0, 1), 0);
        box.to(17);
        edge.all("THREAD # behind LEAVE", 1, t -> box.thread(t, 1), 1, 2);
        box.to(box.told(1));
        // THREAD 1 keeps the GATE, and has ENDED: so THREAD 2 can't go.
        edge.is("in the end THREAD 1", box.thread(1, 1), 4);
        edge.is("in the end THREAD 2", box.thread(2, 1), 2);
        edge.is("in the end THREAD 3", box.thread(3, 1), 3);
    }

    private void others() {
        edge.sentence(TERMS, "16 INPUT: A is the next INPUT (in each run from the first on): FAILS NONE, if there is none left.");
        edge.is("without any", failure("INPUT 0"), NONE);
        ReplayBox box = Programs.box("INPUT 0; INPUT 1; INPUT 2");
        box.input(LEAST);
        box.input(LARGEST);
        for (int run = 1; run <= 2; run++) {
            edge.is("the third of two, in run " + run, box.run(), 2);
            edge.is("its FAILURE", box.told(2), NONE);
            edge.is("the first", box.value(0, 0, 1), LEAST);
            edge.is("the second", box.value(0, 1, 1), LARGEST);
        }
        box.input(0);
        edge.is("the third of three", box.run(), 0);
        edge.is("where none is left A stays", Programs.ran("LOCK 0; INPUT 0").value(0, 0, 0), 2);
        edge.sentence(TERMS, "17 START: THREAD a (modulo 4) is STARTED: FAILS HELD, if it was.");
        for (int k = 0; k < NUMBERS.length; k++) {
            int thread = MODULO_4[k];
            ReplayBox start = Programs.ran("START " + NUMBERS[k], "SET 0 1", "SET 0 1", "SET 0 1");
            edge.is("START " + NUMBERS[k] + ": its FAILURE", start.told(2), thread == 0 ? HELD : 0);
            edge.is("START " + NUMBERS[k] + ": the THREAD's LOCAL", start.value(thread, 0, 1), thread == 0 ? 0 : 1);
        }
        edge.is("a second time", failure("START 1; START 5"), HELD);
        edge.is("itself", failure("START 1", "START 1"), HELD);
        edge.is("one without INSTRUCTIONS, twice", failure("START 3; START 3"), HELD);
        edge.sentence(TERMS, "18 FAIL: FAILS as told: 10 and b modulo 10, from 0.");
        for (int k = 0; k < NUMBERS.length; k++) {
            edge.is("FAIL " + NUMBERS[k], failure("FAIL 0 " + NUMBERS[k]), 10 + MODULO_10[k]);
        }
        edge.sentence(TERMS, "19 END: INSTRUCTION 24 is next.");
        ReplayBox end = Programs.ran("END; SET 0 1");
        edge.is("steps", end.told(1), 1);
        edge.is("the next INSTRUCTION", end.thread(0, 0), 24);
        edge.is("it has ENDED", end.thread(0, 1), 4);
        edge.is("as the 24th", Programs.ran("SET 0 1;".repeat(23) + "END").told(1), 24);
    }

    private void woken() {
        edge.sentence(TERMS, "A WOKEN THREAD can't go while the GATE is another one's (its own it can't be); when it goes the GATE is its own, and it is behind the WAIT: that is its step.");
        ReplayBox box = sleepers();
        edge.is("steps", box.told(1), 18);
        edge.is("THREAD of the last step", box.step(18, 0), 1);
        edge.is("its INSTRUCTION", box.step(18, 1), 2);
        edge.is("its OP", box.step(18, 2), 14);
        edge.is("it took", box.step(18, 5), 1);
        edge.is("the GATE is THREAD 1's", box.thing(0, 1), 1);
        edge.is("it is behind the WAIT", box.thread(1, 0), 24);
        edge.is("THREAD 2 is still at it", box.thread(2, 0), 2);
        box.to(16);
        edge.is("WOKEN, THREAD 1 is at it, too", box.thread(1, 0), 2);
        box.to(17);
        edge.is("nobody has the GATE", box.thing(0, 1), -2);
        // A TURN of a WOKEN THREAD whose GATE is another one's is nothing; the GATE may be taken by a third one first.
        ReplayBox third = Programs.box("LOCK 0 1; PUT 0 0; START 1; START 2; TAKE 0; WORD 0; LEAVE 0; SET 1 1",
                "GET 0 0; TAKE 0; WAIT 0; LEAVE 0", "GET 0 0; TAKE 0; SET 1 1; LEAVE 0");
        third.turn(0, 4);
        third.turn(1, 3);
        third.turn(0, 2);
        third.turn(1, 9);
        third.turn(0, 1);
        third.turn(2, 3);
        third.turn(1, 9);
        edge.is("all END", third.run(), 0);
        edge.rows("its steps", Programs.stepThreads(third), 0, 0, 0, 0, 1, 1, 1, 0, 0, 0, 2, 2, 2, 2, 0, 1, 1);
    }

    private void next() {
        edge.sentence(TERMS, "What isn't told otherwise goes on with the next INSTRUCTION; one below 0, or above 23, there is not.");
        ReplayBox box = Programs.ran("SET 0 1; LOCK 1; TAKE 1; LEAVE 1; SET 2 1; UNLESS 2 0; START 1; ADD 0 2; "
                + "PUT 0 0; GET 0 0");
        for (int s = 0; s <= 9; s++) {
            box.to(s);
            edge.is("behind step " + s, box.thread(0, 0), s);
        }
        box.to(10);
        edge.is("behind the last one", box.thread(0, 0), 24);
        ReplayBox full = Programs.ran("SET 0 1; ".repeat(24));
        edge.is("behind INSTRUCTION 23", full.thread(0, 0), 24);
        full.to(23);
        edge.is("ahead of it", full.thread(0, 0), 23);
        for (int next : new int[] {LEAST, -1, 24, LARGEST}) {
            edge.is("behind GO " + next, Programs.ran("GO " + next).thread(0, 0), 24);
        }
    }

    private void failures() {
        edge.sentence(TERMS, "FAILURES: 1 KIND, 2 SIZE, 3 ROOM, 4 BEYOND, 5 HELD, 6 FREE, 7 NONE, 10 .. 19 as told.");
        edge.is("KIND", failure("TAKE 0"), 1);
        edge.is("SIZE", failure("SET 0 -1; ROW 0 0"), 2);
        edge.is("ROOM", failure("SET 0 17; ROW 0 0"), 3);
        edge.is("BEYOND", failure("ROW 0 1; READ 0 0 1"), 4);
        edge.is("HELD", failure("START 0"), 5);
        edge.is("FREE", failure("LOCK 0; LEAVE 0"), 6);
        edge.is("NONE", failure("INPUT 0"), 7);
        edge.is("the first as told", failure("FAIL 0 0"), 10);
        edge.is("the last as told", failure("FAIL 0 9"), 19);
        edge.sentence(TERMS, "An INSTRUCTION that FAILS is a step, too (and changes nothing).");
        String made = "SET 1 2; ROW 0 1; LOCK 2; LOCK 3 1; ";
        String[] ops = {"ADD 0 1", "UNLESS 0 0", "ROW 1 0", "READ 1 0 1", "WRITE 0 1 1", "TAKE 0", "LEAVE 2", "WAIT 3",
            "WORD 3", "INPUT 1", "START 0", "FAIL 0 0"};
        for (String op : ops) {
            ReplayBox box = Programs.ran(made + op + "; SET 1 9");
            edge.is(op + " FAILS", box.told(0), 2);
            edge.is(op + " is a step", box.told(1), 5);
            edge.is(op + " changes nothing", box.differ(4, 5), 0);
            edge.is(op + " stays the next one", box.thread(0, 0), 4);
            edge.is(op + " reads none", box.step(5, 3), -2);
            edge.is(op + " writes none", box.step(5, 4), -2);
            edge.is(op + " is no such step", box.step(5, 5), 0);
            edge.is(op + " makes nothing", box.told(4), 3);
            edge.is(op + " takes no INPUT", box.told(6), 0);
            edge.is(op + " leaves LOCK 1 as it was", box.thing(1, 1), -2);
            edge.is(op + " leaves GATE 2 as it was", box.thing(2, 1), -2);
        }
    }
}
