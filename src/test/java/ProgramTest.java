/** Promises 1 to 7: what is told ahead of a run. */
public final class ProgramTest {
    private static final Due due = new Due();

    public static void main(String[] args) {
        newObject();
        codeComes();
        codeRefusals();
        clearTakesAll();
        cellsAtFirst();
        inputsCome();
        turnsCome();
        freelyTakesTurns();
        due.close();
    }

    private static void newObject() {
        ReplayBox box = new ReplayBox();
        due.is("told(0) of a new box", box.told(0), -2);
        due.is("ended() of a new box", box.ended(), -2);
        due.is("found(0) of a new box", box.found(0), -2);
        due.is("found(6) of a new box", box.found(6), 0);
        due.is("freely() of a new box", box.freely(), 0);
        for (int thread = 0; thread < 4; thread++) {
            due.is("clear of a new box", box.clear(thread), 0);
        }
        due.is("run() of a new box", box.run(), 0);
        due.is("told(1)", box.told(1), 0);
        for (int cell = 0; cell < 12; cell++) {
            due.is("a new CELL's KIND", box.value(-1, cell, 0), 0);
            due.is("a new CELL", box.value(-1, cell, 1), 0);
        }
        for (int d = 0; d < 8; d++) {
            due.is("a new SHELF", box.weight(d), -11);
        }
        due.is("the first INPUT of a new box", box.input(3), 1);
    }

    private static void codeComes() {
        ReplayBox box = new ReplayBox();
        for (int op = 0; op <= 19; op++) {
            due.is("code of OP " + op, box.code(3, op, 1, 2, 3), op);
        }
        due.is("code of another THREAD", box.code(0, 0, 0, 0, 0), 0);
        due.is("code again", box.code(3, 0, 0, 0, 0), 20);
    }

    private static void codeRefusals() {
        ReplayBox box = new ReplayBox();
        due.is("THREAD -1", box.code(-1, 0, 0, 0, 0), -1);
        due.is("THREAD 4", box.code(4, 0, 0, 0, 0), -1);
        due.is("OP -1", box.code(0, -1, 0, 0, 0), -1);
        due.is("OP 20", box.code(0, 20, 0, 0, 0), -1);
        due.is("the largest ints", box.code(Integer.MAX_VALUE, Integer.MIN_VALUE, 0, 0, 0), -1);
        for (int k = 0; k < 24; k++) {
            due.is("INSTRUCTION " + k, box.code(2, 0, 0, 0, 0), k);
        }
        due.is("INSTRUCTION 24", box.code(2, 0, 0, 0, 0), -2);
        due.is("-1 ahead of -2", box.code(2, 20, 0, 0, 0), -1);
        due.is("another THREAD has room", box.code(1, 0, 0, 0, 0), 0);
        due.is("refusals added nothing", box.clear(2), 24);
    }

    private static void clearTakesAll() {
        ReplayBox box = Programs.box("SET 0 1; PUT 0 0; PUT 1 0", "SET 0 2");
        due.is("clear(-1)", box.clear(-1), -1);
        due.is("clear(4)", box.clear(4), -1);
        due.is("clear(0)", box.clear(0), 3);
        due.is("clear(0) again", box.clear(0), 0);
        due.is("run without INSTRUCTIONS", box.run(), 0);
        due.is("its steps", box.told(1), 0);
        due.is("the first INSTRUCTION anew", box.code(0, 0, 1, 9, 0), 0);
        due.is("clear(1)", box.clear(1), 1);
        due.is("run of one", box.run(), 0);
        due.is("what it set", box.value(0, 1, 1), 9);
    }

    private static void cellsAtFirst() {
        ReplayBox box = Programs.box("SET 0 1; PUT 3 0");
        due.is("cell(-1)", box.cell(-1, 5), -1);
        due.is("cell(12)", box.cell(12, 5), -1);
        due.is("cell(0)", box.cell(0, Integer.MIN_VALUE), 0);
        due.is("cell(11)", box.cell(11, 7), 0);
        due.is("cell(3)", box.cell(3, 8), 0);
        due.is("cell(11) again", box.cell(11, -7), 0);
        box.run();
        due.is("CELL 0", Programs.cell(box, 0), Integer.MIN_VALUE);
        due.is("CELL 11", Programs.cell(box, 11), -7);
        due.is("CELL 3 behind the PUT", Programs.cell(box, 3), 1);
        box.run();
        box.to(0);
        due.is("CELL 3 at first, in the second run", Programs.cell(box, 3), 8);
    }

    private static void inputsCome() {
        ReplayBox box = Programs.box("INPUT 0; INPUT 1; GO 0");
        for (int k = 1; k <= 30; k++) {
            due.is("INPUT " + k, box.input(100 + k), k);
        }
        due.is("INPUT 31", box.input(1), -2);
        box.run();
        due.is("it took them all", box.told(6), 30);
        due.is("the FAILURE behind them", box.told(2), 7);
        due.is("the last but one", box.value(0, 0, 1), 129);
        due.is("the last one", box.value(0, 1, 1), 130);
        box.run();
        due.is("from the first on again", box.told(6), 30);
    }

    private static void turnsCome() {
        ReplayBox box = new ReplayBox();
        due.is("turn of THREAD -1", box.turn(-1, 1), -1);
        due.is("turn of THREAD 4", box.turn(4, 1), -1);
        due.is("turn of 0 steps", box.turn(0, 0), -1);
        due.is("turn of 101 steps", box.turn(0, 101), -1);
        due.is("turn of 100 steps", box.turn(0, 100), 1);
        due.is("turn of 1 step", box.turn(3, 1), 2);
        for (int k = 3; k <= 40; k++) {
            due.is("TURN " + k, box.turn(1, 1), k);
        }
        due.is("TURN 41", box.turn(1, 1), -2);
        due.is("-1 ahead of -2", box.turn(1, 0), -1);
        due.is("refusals added none", box.freely(), 40);
    }

    private static void freelyTakesTurns() {
        ReplayBox box = Programs.box("START 1; SET 0 1; SET 0 2", "SET 0 3");
        box.turn(0, 1);
        box.turn(1, 1);
        box.run();
        due.rows("with TURNS", Programs.stepThreads(box), 0, 1, 0, 0);
        due.is("freely()", box.freely(), 2);
        due.is("freely() again", box.freely(), 0);
        box.run();
        due.rows("without TURNS", Programs.stepThreads(box), 0, 0, 0, 1);
        due.is("a TURN anew", box.turn(0, 1), 1);
    }
}
