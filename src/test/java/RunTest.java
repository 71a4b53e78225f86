/** Promises 8 to 11: runs, the OPS, and what is told of them. */
public final class RunTest {
    private static final Due due = new Due();

    public static void main(String[] args) {
        numberOps();
        jumps();
        modulos();
        kindFailures();
        rowOps();
        rowFailures();
        lockOps();
        lockFailures();
        gates();
        woken();
        inputsStartsFails();
        overs();
        longRuns();
        turns();
        toldOfRuns();
        changes();
        steps();
        keptWhileProgramChanges();
        due.close();
    }

    private static int failure(String... threads) {
        return Programs.ran(threads).told(2);
    }

    private static int local(String program, int k) {
        return Programs.ran(program).value(0, k, 1);
    }

    private static void numberOps() {
        due.is("ADD", local("SET 0 5; SET 1 7; ADD 0 1", 0), 12);
        due.is("LESS", local("SET 0 5; SET 1 7; LESS 0 1", 0), -2);
        due.is("TIMES", local("SET 0 5; SET 1 -7; TIMES 0 1", 0), -35);
        due.is("ADD wraps", local("SET 0 2147483647; SET 1 1; ADD 0 1", 0), Integer.MIN_VALUE);
        due.is("LESS wraps", local("SET 0 -2147483648; SET 1 1; LESS 0 1", 0), Integer.MAX_VALUE);
        due.is("TIMES wraps", local("SET 0 65536; TIMES 0 0", 0), 0);
        due.is("ADD of a LOCAL to itself", local("SET 2 21; ADD 2 2", 2), 42);
        due.is("B stays", local("SET 0 5; SET 1 7; ADD 0 1", 1), 7);
        due.is("GET and PUT", local("SET 0 5; PUT 4 0; GET 3 4", 3), 5);
        due.is("LOCALS at first", local("ADD 0 1", 0), 0);
    }

    private static void jumps() {
        due.is("GO forward", local("GO 2; SET 0 9; SET 1 4", 0), 0);
        due.is("GO forward, behind it", local("GO 2; SET 0 9; SET 1 4", 1), 4);
        due.is("GO below 0 ends", Programs.ran("GO -1; SET 0 9").told(1), 1);
        due.is("GO to one that isn't there ends", Programs.ran("GO 2; SET 0 9").told(0), 0);
        due.is("GO above 23 ends", Programs.ran("GO 2147483647").told(0), 0);
        due.is("UNLESS 0 goes", local("UNLESS 0 2; SET 1 9; SET 2 3", 1), 0);
        due.is("UNLESS 1 goes on", local("SET 0 1; UNLESS 0 3; SET 1 9; SET 2 3", 1), 9);
        due.is("END", Programs.ran("END; SET 0 9").told(1), 1);
        ReplayBox box = Programs.ran("GO -7; SET 0 9");
        due.is("the next INSTRUCTION behind GO -7", box.thread(0, 0), 24);
        due.is("it has ENDED", box.thread(0, 1), 4);
    }

    private static void modulos() {
        due.is("LOCAL 5 is 1", local("SET 5 8", 1), 8);
        due.is("LOCAL -1 is 3", local("SET -1 8", 3), 8);
        ReplayBox box = Programs.ran("SET 0 6; PUT 25 0; PUT -1 0; GET 1 -11; GET 2 23");
        due.is("CELL 25 is 1", Programs.cell(box, 1), 6);
        due.is("CELL -1 is 11", Programs.cell(box, 11), 6);
        due.is("GET of CELL -11 is of 1", box.value(0, 1, 1), 6);
        due.is("its PLACE", box.step(4, 3), 1);
        due.is("GET of CELL 23 is of 11", box.value(0, 2, 1), 6);
        due.is("its PLACE", box.step(5, 3), 11);
        due.is("START -3 is 1", Programs.ran("START -3", "SET 0 4").value(1, 0, 1), 4);
        due.is("FAIL 23 is 13", failure("FAIL 0 23"), 13);
        due.is("FAIL -1 is 19", failure("FAIL 0 -1"), 19);
        due.is("FAIL 0 is 10", failure("FAIL"), 10);
        due.is("LOCK of -3 is a GATE", Programs.ran("LOCK 0 -3").value(0, 0, 0), 3);
        due.is("LOCK of 4 is none", Programs.ran("LOCK 0 4").value(0, 0, 0), 2);
        due.is("A and B by their modulo", local("SET 0 3; SET 1 4; ADD 4 -3", 0), 7);
    }

    private static void kindFailures() {
        for (String op : new String[] {"ADD 0 1", "ADD 1 0", "LESS 0 1", "LESS 1 0", "TIMES 0 1", "TIMES 1 0",
                "UNLESS 0 1", "ROW 1 0", "READ 1 0 1", "WRITE 0 1 1", "READ 1 1 1", "WRITE 1 1 1", "TAKE 1", "LEAVE 1",
                "WAIT 1", "WORD 1", "WAIT 0", "WORD 0"}) {
            due.is(op + " with a LOCK in 0, a NUMBER in 1", failure("LOCK 0; " + op), 1);
        }
        for (String op : new String[] {"ADD 0 1", "UNLESS 0 1", "ROW 1 0", "READ 1 0 0", "WRITE 0 0 1", "WRITE 0 1 0",
                "TAKE 0", "LEAVE 0", "WAIT 0", "WORD 0"}) {
            due.is(op + " with a ROW in 0, a NUMBER in 1", failure("SET 1 2; ROW 0 1; " + op), 1);
        }
        ReplayBox box = Programs.ran("LOCK 0; SET 1 5; ADD 1 0; SET 1 9");
        due.is("what FAILS changes nothing", box.value(0, 1, 1), 5);
        due.is("what FAILS is a step", box.told(1), 3);
        due.is("it is still the next one", box.thread(0, 0), 2);
        due.is("KIND ahead of SIZE and BEYOND", failure("SET 1 1; ROW 0 1; SET 1 -5; READ 2 1 0"), 1);
    }

    private static void rowOps() {
        ReplayBox box = Programs.ran(
                "SET 1 16; ROW 0 1; SET 2 15; SET 3 77; WRITE 0 2 3; READ 1 0 2; SET 3 0; ROW 2 3; PUT 5 0");
        due.is("a ROW of 16", box.thing(0, 1), 16);
        due.is("its last place", box.place(0, 15), 77);
        due.is("READ of it", box.value(0, 1, 1), 77);
        due.is("WRITE's PLACE", box.step(5, 4), 115);
        due.is("READ's PLACE", box.step(6, 3), 115);
        due.is("READ writes none", box.step(6, 4), -2);
        due.is("a ROW of 0", box.thing(1, 1), 0);
        due.is("its number", box.value(0, 2, 1), 1);
        due.is("a CELL holds a ROW", box.value(-1, 5, 0), 1);
        box = Programs.ran("SET 1 2; ROW 0 1; ROW 0 1; SET 1 1; WRITE 0 1 1; READ 1 0 1");
        due.is("PLACE of THING 1", box.step(5, 4), 121);
        due.is("THING 0 stays", box.place(0, 1), 0);
        due.is("READ may change its own C", box.value(0, 1, 1), 1);
        box = Programs.ran("SET 0 1; ROW 0 0; PUT 0 0; SET 1 0; SET 2 9; WRITE 0 1 2; START 1",
                "GET 0 0; READ 2 0 1; PUT 1 2");
        due.is("ROWS are shared", Programs.cell(box, 1), 9);
        box = Programs.box("SET 1 1; ROW 0 1; SET 2 0; READ 3 0 2; WRITE 0 2 1");
        box.run();
        box.run();
        due.is("a new run's ROW is of 0 again", box.value(0, 3, 1), 0);
    }

    private static void rowFailures() {
        due.is("SIZE", failure("SET 1 -1; ROW 0 1"), 2);
        due.is("ROOM above 16", failure("SET 1 17; ROW 0 1"), 3);
        due.is("BEYOND in READ", failure("SET 1 3; ROW 0 1; READ 2 0 1"), 4);
        due.is("BEYOND below 0", failure("SET 1 3; ROW 0 1; SET 1 -1; READ 2 0 1"), 4);
        due.is("BEYOND in WRITE", failure("SET 1 3; ROW 0 1; WRITE 0 1 1"), 4);
        due.is("BEYOND of a ROW of 0", failure("ROW 0 1; READ 2 0 1"), 4);
        String twelve = "ROW 0 1; LOCK 0; LOCK 0 1; ROW 0 1; LOCK 0; LOCK 0 1; ROW 0 1; LOCK 0; LOCK 0 1; ROW 0 1; "
                + "LOCK 0; LOCK 3 1; ";
        ReplayBox box = Programs.ran(twelve + "SET 2 9");
        due.is("12 THINGS", box.told(4), 12);
        due.is("they are room enough", box.told(0), 0);
        due.is("the last one's number", box.value(0, 3, 1), 11);
        box = Programs.ran(twelve.replace("LOCK 3 1", "SET 1 16; ROW 3 1") + "SET 1 15; WRITE 3 1 1");
        due.is("the last THING may be the longest ROW", box.place(11, 15), 15);
        due.is("ROOM of a ROW", failure(twelve + "ROW 0 1"), 3);
        due.is("ROOM of a LOCK", failure(twelve + "LOCK 0"), 3);
        due.is("SIZE ahead of ROOM", failure(twelve + "SET 1 -1; ROW 0 1"), 2);
        due.is("KIND ahead of ROOM", failure(twelve + "ROW 0 3"), 1);
    }

    private static void lockOps() {
        ReplayBox box = Programs.ran("LOCK 0; PUT 0 0; TAKE 0; START 1; SET 1 1; LEAVE 0; SET 1 2",
                "GET 0 0; TAKE 0; SET 1 3; LEAVE 0");
        due.rows("nobody waits where none need", Programs.stepThreads(box), 0, 0, 0, 0, 0, 0, 0, 1, 1, 1, 1);
        due.is("the LOCK is free", box.thing(0, 1), -2);
        box.to(9);
        due.is("the LOCK is THREAD 1's", box.thing(0, 1), 1);
        box.turn(0, 4);
        box.turn(1, 100);
        box.run();
        // Behind its TURN THREAD 1 went last, but it can't go: so the least one goes, and goes on.
        due.rows("THREAD 1 can't TAKE", Programs.stepThreads(box), 0, 0, 0, 0, 1, 0, 0, 0, 1, 1, 1);
    }

    private static void lockFailures() {
        due.is("HELD", failure("LOCK 0; TAKE 0; TAKE 0"), 5);
        due.is("HELD of a GATE", failure("LOCK 0 1; TAKE 0; TAKE 0"), 5);
        due.is("FREE in LEAVE", failure("LOCK 0; LEAVE 0"), 6);
        due.is("FREE in WAIT", failure("LOCK 0 1; WAIT 0"), 6);
        due.is("FREE in WORD", failure("LOCK 0 1; WORD 0"), 6);
        due.is("FREE in LEAVE of another one's", failure("LOCK 0; PUT 0 0; TAKE 0; START 1", "GET 0 0; LEAVE 0"), 6);
        due.is("FREE in WAIT of another one's", failure("LOCK 0 1; PUT 0 0; TAKE 0; START 1", "GET 0 0; WAIT 0"), 6);
        due.is("FREE in WORD of another one's", failure("LOCK 0 1; PUT 0 0; TAKE 0; START 1", "GET 0 0; WORD 0"), 6);
        ReplayBox box = Programs.ran("LOCK 0; PUT 0 0; TAKE 0; START 1", "GET 0 0; TAKE 0");
        due.is("STUCK at one that has ENDED", box.told(0), 1);
        due.is("THREAD 1 can't go", box.thread(1, 1), 2);
        due.is("its next INSTRUCTION", box.thread(1, 0), 1);
    }

    private static ReplayBox meeting() {
        return Programs.box("LOCK 0 1; PUT 0 0; START 1; START 2; TAKE 0; WORD 0; SET 3 1; LEAVE 0",
                "GET 0 0; TAKE 0; WAIT 0; SET 3 2; LEAVE 0", "GET 0 0; TAKE 0; WAIT 0; SET 3 3; LEAVE 0");
    }

    private static void gates() {
        ReplayBox box = meeting();
        box.turn(0, 4);
        box.turn(1, 100);
        box.turn(2, 100);
        due.is("run()", box.run(), 0);
        due.rows("the meeting's steps", Programs.stepThreads(box), 0, 0, 0, 0, 1, 1, 1, 2, 2, 2, 0, 0, 0, 0, 1, 1, 1, 2,
                2, 2);
        due.is("WAIT lies down", box.step(7, 5), 2);
        due.is("WORD", box.step(12, 5), 3);
        due.is("behind WAIT it takes", box.step(15, 5), 1);
        due.is("that step's INSTRUCTION", box.step(15, 1), 2);
        due.is("that step's OP", box.step(15, 2), 14);
        box.to(7);
        due.is("ASLEEP", box.thread(1, 1), 3);
        due.is("its next INSTRUCTION is the same", box.thread(1, 0), 2);
        due.is("its GATE is free", box.thing(0, 1), -2);
        box.to(12);
        due.is("WOKEN, but it can't", box.thread(1, 1), 2);
        box.to(14);
        due.is("WOKEN, and it can", box.thread(1, 1), 1);
        box.to(15);
        due.is("the GATE is its own", box.thing(0, 1), 1);
        due.is("it is behind the WAIT", box.thread(1, 0), 3);
        due.is("the other one can't", box.thread(2, 1), 2);
        box.freely();
        due.is("a WORD for nobody: STUCK", box.run(), 1);
        due.is("both are ASLEEP", box.thread(1, 1) * 10 + box.thread(2, 1), 33);
    }

    private static void woken() {
        ReplayBox box = Programs.box(
                "LOCK 0 1; LOCK 1 1; PUT 0 0; PUT 1 1; START 1; START 2; GET 2 2; UNLESS 2 9; GO 6; TAKE 1; WORD 1; LEAVE 1",
                "GET 0 0; TAKE 0; WAIT 0", "GET 0 1; TAKE 0; WAIT 0; LEAVE 0");
        box.turn(0, 6);
        box.turn(1, 3);
        box.turn(2, 3);
        due.is("a WORD wakes only those at its own GATE", box.run(), 1);
        due.is("THREAD 1 is still ASLEEP", box.thread(1, 1), 3);
        due.is("THREAD 2 has ENDED", box.thread(2, 1), 4);
    }

    private static void inputsStartsFails() {
        ReplayBox box = Programs.box("INPUT 2; INPUT 2");
        box.input(-5);
        due.is("the second INPUT", box.run(), 2);
        due.is("NONE", box.told(2), 7);
        due.is("the first one was taken", box.value(0, 2, 1), -5);
        due.is("INPUTS taken", box.told(6), 1);
        due.is("START of itself", failure("START 0"), 5);
        due.is("START again", failure("START 1; START 1"), 5);
        due.is("START of one that has ENDED", failure("START 1; GET 0 0; UNLESS 0 1; START 1", "SET 0 1; PUT 0 0"), 0);
        box = Programs.box("START 1; SET 0 1; START 1", "SET 0 1");
        box.turn(0, 1);
        box.turn(1, 1);
        due.is("START of one that has ENDED, too", box.run(), 2);
        due.is("its FAILURE", box.told(2), 5);
        due.is("START from another THREAD", Programs.ran("START 3", "", "", "START 2").thread(2, 1), 4);
    }

    private static void overs() {
        due.is("DONE", Programs.box("SET 0 1").run(), 0);
        due.is("DONE with a THREAD that isn't STARTED", Programs.box("SET 0 1", "SET 0 1").run(), 0);
        due.is("STUCK", Programs.box("LOCK 0 1; TAKE 0; WAIT 0").run(), 1);
        due.is("FAILED", Programs.box("SET 0 1; FAIL 0 3").run(), 2);
        due.is("LONG", Programs.box("GO 0").run(), 3);
    }

    private static String exactly(int steps) {
        int rounds = (steps - 3) / 3;
        return "SET 0 " + rounds + "; SET 1 1; SET 2 0; LESS 0 1; UNLESS 0 6; GO 3; ";
    }

    // SET 3 times, then LESS, UNLESS, GO for each round, the last one without GO.
    private static void longRuns() {
        ReplayBox box = Programs.ran(exactly(300));
        due.is("a run of 299 steps and none more", box.told(1), 299);
        due.is("it is DONE", box.told(0), 0);
        box = Programs.ran(exactly(300) + "SET 3 1");
        due.is("a run of 300 steps and none more", box.told(1), 300);
        due.is("it is DONE", box.told(0), 0);
        box = Programs.ran(exactly(300) + "SET 3 1; SET 3 2");
        due.is("300 steps, one more would be there", box.told(1), 300);
        due.is("it is LONG", box.told(0), 3);
        box = Programs.ran(exactly(300) + "FAIL 0 1; SET 3 2");
        due.is("FAILED in step 300", box.told(0), 2);
        due.is("its steps", box.told(1), 300);
        box = Programs.ran(exactly(300) + "SET 3 1; FAIL 0 1");
        due.is("a FAILURE behind 300 steps is none", box.told(0), 3);
        due.is("told(2)", box.told(2), 0);
        box = Programs.box("START 1; GO 1", "GO 0");
        box.turn(0, 100);
        box.turn(1, 100);
        box.turn(0, 100);
        box.turn(1, 100);
        due.is("TURNS end at 300, too", box.run(), 3);
        due.is("told(1)", box.told(1), 300);
        due.is("told(5)", box.told(5), 2);
        box = Programs.ran(exactly(300).replace("SET 2 0", "LOCK 2 1") + "TAKE 2");
        due.is("the 300th step takes a LOCK", box.step(300, 5), 1);
        due.is("DONE at 300", box.told(0), 0);
    }

    private static void turns() {
        ReplayBox box = Programs.box("START 1; START 2; SET 0 1; SET 0 2; SET 0 3", "SET 0 1; SET 0 2", "SET 0 1; SET 0 2");
        box.turn(2, 5);
        box.turn(0, 2);
        box.turn(3, 5);
        box.turn(2, 1);
        box.turn(1, 1);
        box.run();
        due.rows("TURNS of those that can't are nothing; who went last goes on", Programs.stepThreads(box), 0, 0, 2, 1, 1,
                0, 0, 0, 2);
        box.freely();
        box.run();
        due.rows("without TURNS 0 goes, then the least", Programs.stepThreads(box), 0, 0, 0, 0, 0, 1, 1, 2, 2);
        box.turn(1, 100);
        box.run();
        due.rows("a TURN of one that isn't STARTED yet is gone", Programs.stepThreads(box), 0, 0, 0, 0, 0, 1, 1, 2, 2);
    }

    private static void toldOfRuns() {
        ReplayBox box = Programs.box("INPUT 0; START 1; LOCK 1; SET 0 1; INPUT 0", "INPUT 1; SET 0 1; FAIL 0 7");
        due.is("told(0) ahead of a run", box.told(0), -2);
        due.is("told(99) ahead of a run", box.told(99), -2);
        for (int k = 0; k < 4; k++) {
            box.input(k);
        }
        box.turn(0, 2);
        box.turn(1, 1);
        box.turn(0, 1);
        due.is("run()", box.run(), 2);
        int[] want = {2, 8, 17, 1, 1, 3, 3, 21};
        for (int what = 0; what < want.length; what++) {
            due.is("told(" + what + ")", box.told(what), want[what]);
        }
        due.is("told(-1)", box.told(-1), -1);
        due.is("told(8)", box.told(8), -1);
        box = Programs.ran("SET 0 1");
        due.is("no FAILURE", box.told(2), 0);
        due.is("no FAILURE's THREAD", box.told(3), -1);
        due.is("no CHANGES", box.told(5), 0);
        due.is("bytes of nothing", box.told(7), 0);
    }

    private static void changes() {
        ReplayBox box = Programs.box("START 1; SET 0 1; SET 0 2; SET 0 3", "SET 0 1; SET 0 2; SET 0 3");
        due.is("change ahead of a run", box.change(0, 0), -1);
        box.turn(0, 1);
        box.turn(1, 1);
        box.turn(0, 2);
        box.turn(1, 1);
        box.run();
        int[] ahead = {1, 2, 4, 6};
        int[] threads = {1, 0, 1, 0};
        due.rows("its steps", Programs.stepThreads(box), 0, 1, 0, 0, 1, 1, 0);
        due.is("told(5)", box.told(5), 4);
        for (int i = 0; i < 4; i++) {
            due.is("change(" + i + ", 0)", box.change(i, 0), ahead[i]);
            due.is("change(" + i + ", 1)", box.change(i, 1), threads[i]);
        }
        due.is("change(4, 0)", box.change(4, 0), -1);
        due.is("change(-1, 0)", box.change(-1, 0), -1);
        due.is("change(0, 2)", box.change(0, 2), -1);
        due.is("change(0, -1)", box.change(0, -1), -1);
    }

    private static void steps() {
        ReplayBox box = Programs.box("START 1; LOCK 0 1; TAKE 0; WORD 0; LEAVE 0; PUT 7 0; GET 1 7; LEAVE 0", "SET 0 1");
        due.is("step ahead of a run", box.step(1, 0), -1);
        box.run();
        due.is("step(0, 0)", box.step(0, 0), -1);
        due.is("step(9, 0)", box.step(9, 0), -1);
        due.is("step(1, -1)", box.step(1, -1), -1);
        due.is("step(1, 6)", box.step(1, 6), -1);
        int[] op = {17, 11, 12, 15, 13, 2, 1, 13};
        int[] reads = {-2, -2, -2, -2, -2, -2, 7, -2};
        int[] writes = {-2, -2, -2, -2, -2, 7, -2, -2};
        int[] marks = {4, 0, 1, 3, 2, 0, 0, 0};
        for (int s = 1; s <= 8; s++) {
            due.is("step(" + s + ", 0)", box.step(s, 0), 0);
            due.is("step(" + s + ", 1)", box.step(s, 1), s - 1);
            due.is("step(" + s + ", 2)", box.step(s, 2), op[s - 1]);
            due.is("step(" + s + ", 3)", box.step(s, 3), reads[s - 1]);
            due.is("step(" + s + ", 4)", box.step(s, 4), writes[s - 1]);
            due.is("step(" + s + ", 5)", box.step(s, 5), marks[s - 1]);
        }
        due.is("a START that FAILS is none", Programs.ran("START 0").step(1, 5), 0);
        due.is("a TAKE that FAILS is none", Programs.ran("LOCK 0; TAKE 0; TAKE 0").step(3, 5), 0);
        due.is("a WAIT that FAILS is none", Programs.ran("LOCK 0 1; WAIT 0").step(2, 5), 0);
        due.is("a WORD that FAILS is none", Programs.ran("LOCK 0 1; WORD 0").step(2, 5), 0);
        box = Programs.ran("SET 0 2; ROW 1 0; READ 2 1 0");
        due.is("a READ that FAILS reads none", box.step(3, 3), -2);
        box = Programs.ran("SET 0 2; ROW 1 0; WRITE 1 0 0");
        due.is("a WRITE that FAILS writes none", box.step(3, 4), -2);
    }

    private static void keptWhileProgramChanges() {
        ReplayBox box = Programs.ran("SET 0 5; PUT 0 0; INPUT 1");
        box.clear(0);
        box.cell(0, 99);
        box.cell(1, 98);
        box.input(4);
        box.turn(3, 1);
        due.is("told(0) stays", box.told(0), 2);
        due.is("step(2, 4) stays", box.step(2, 4), 0);
        box.to(0);
        due.is("CELL 0 as it was at first", Programs.cell(box, 0), 0);
        due.is("CELL 1 as it was at first", Programs.cell(box, 1), 0);
        due.is("the next INSTRUCTION as it was", box.thread(0, 0), 0);
        due.is("it CAN GO, as it could", box.thread(0, 1), 1);
        box.to(2);
        due.is("CELL 0 behind step 2", Programs.cell(box, 0), 5);
        due.is("when() as it was", box.when(0, 0, 0, 2), 1);
        due.is("differ() as it was", box.differ(0, 2), 3);
        box.run();
        due.is("the new run", box.told(1), 0);
        due.is("its CELL 0", Programs.cell(box, 0), 99);
        box = Programs.ran("SET 0 1; SET 0 2; SET 0 3");
        box.to(1);
        box.run();
        due.is("THE VIEW is behind the last step", box.back(0), 3);
    }
}
