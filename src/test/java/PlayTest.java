/** Promises 12 and 13: THE RECORD gone by again. */
public final class PlayTest {
    private static final Due due = new Due();

    public static void main(String[] args) {
        refusals();
        wholeRecord();
        partsOfTheRecord();
        inputs();
        otherProgram();
        toldCannot();
        longPlays();
        nothingElseChanges();
        due.close();
    }

    private static ReplayBox counters() {
        ReplayBox box = Programs.box("START 1; GET 0 0; SET 1 5; ADD 0 1; PUT 0 0", "GET 0 0; SET 1 7; ADD 0 1; PUT 0 0");
        box.turn(0, 2);
        box.turn(1, 4);
        return box;
    }

    private static void played(String what, ReplayBox box, int n, int m, int steps, int ended) {
        due.is(what + ": play(" + n + ", " + m + ")", box.play(n, m), steps);
        due.is(what + ": ended()", box.ended(), ended);
    }

    private static void refusals() {
        ReplayBox box = counters();
        due.is("play ahead of a run", box.play(0, 0), -2);
        due.is("play(-1, -1) ahead of a run", box.play(-1, -1), -2);
        due.is("ended() ahead of a play", box.ended(), -2);
        box.input(1);
        box.run();
        due.is("ended() behind a run", box.ended(), -2);
        due.is("play(-1, 0)", box.play(-1, 0), -1);
        due.is("play(0, -1)", box.play(0, -1), -1);
        due.is("play(3, 0)", box.play(3, 0), -1);
        due.is("play(0, 1): it took none", box.play(0, 1), -1);
        due.is("a refused play() is none", box.ended(), -2);
        played("then", box, 2, 0, 9, 0);
    }

    private static void wholeRecord() {
        ReplayBox box = counters();
        box.run();
        played("all", box, 2, 0, 9, 0);
        box = Programs.ran("SET 0 1; FAIL 0 2");
        played("a step that FAILS counts", box, 0, 0, 2, 3);
        box = Programs.ran("LOCK 0 1; TAKE 0; WAIT 0; SET 1 1");
        played("STUCK", box, 0, 0, 3, 0);
        box = new ReplayBox();
        box.run();
        played("nothing", box, 0, 0, 0, 0);
    }

    // THREAD 1 needs a CELL that THREAD 0 sets last; which steps come then depends on the CHANGES that are known.
    private static void partsOfTheRecord() {
        ReplayBox box = Programs.box("START 1; SET 0 1; PUT 0 0; SET 0 2", "GET 0 0; UNLESS 0 3; FAIL 0 1; SET 1 1");
        box.turn(0, 1);
        box.turn(1, 1);
        box.turn(0, 3);
        box.run();
        due.is("CHANGES", box.told(5), 3);
        played("all", box, 3, 0, 7, 0);
        played("two: THREAD 0 goes on, then 1", box, 2, 0, 7, 0);
        played("one: THREAD 1 goes on as long as it can", box, 1, 0, 7, 0);
        played("none: THREAD 0 as long as it can, then 1 FAILS", box, 0, 0, 7, 3);
    }

    private static void inputs() {
        ReplayBox box = Programs.box("INPUT 0; INPUT 1; INPUT 2");
        box.input(5);
        box.input(6);
        box.run();
        played("none known", box, 0, 0, 0, 2);
        played("one known", box, 0, 1, 1, 2);
        played("two known: the third isn't, though it FAILED in the run", box, 0, 2, 2, 2);
        box.input(7);
        played("INPUTS that came since aren't known", box, 0, 2, 2, 2);
        box.clear(0);
        Programs.add(box, 0, "INPUT 0; INPUT 1; ADD 0 1; SET 2 -11; ADD 0 2; UNLESS 0 7; FAIL 0 1; SET 3 1");
        played("the INPUTS are the run's", box, 0, 2, 7, 0);
        box.clear(0);
        Programs.add(box, 0, "FAIL 0 7");
        played("a FAILURE as told is no INPUT", box, 0, 0, 1, 3);
    }

    private static void otherProgram() {
        ReplayBox box = Programs.ran("GET 0 0; UNLESS 0 3; FAIL 0 1; SET 1 1");
        played("as it was", box, 0, 0, 3, 0);
        box.cell(0, 1);
        played("with another CELL at first", box, 0, 0, 3, 3);
        box.clear(0);
        played("without INSTRUCTIONS", box, 0, 0, 0, 0);
        box.turn(0, 1);
        Programs.add(box, 0, "SET 0 1; SET 0 2");
        played("TURNS are nothing to it", box, 0, 0, 2, 0);
    }

    private static void toldCannot() {
        ReplayBox box = counters();
        box.run();
        box.clear(1);
        played("THREAD 1 at its CHANGE", box, 1, 0, 2, 1);
        played("THREAD 1, with all known", box, 2, 0, 2, 1);
        played("none known", box, 0, 0, 5, 0);
        Programs.add(box, 1, "SET 0 1; SET 0 2");
        played("THREAD 1 ends ahead of its second CHANGE", box, 2, 0, 4, 1);
        played("behind the last CHANGE that is known another one goes on", box, 1, 0, 7, 0);
        box.clear(0);
        played("THREAD 0, told ahead of the first CHANGE", box, 1, 0, 0, 1);
        played("THREAD 0, not told", box, 0, 0, 0, 0);
        box = Programs.box("LOCK 0; PUT 0 0; START 1; SET 1 1", "GET 0 0; SET 1 1");
        box.turn(0, 3);
        box.turn(1, 2);
        box.run();
        box.clear(0);
        box.clear(1);
        Programs.add(box, 0, "LOCK 0; PUT 0 0; START 1; SET 1 1; LEAVE 0");
        Programs.add(box, 1, "GET 0 0; TAKE 0; END");
        played("a FAILURE behind the CHANGES", box, 2, 0, 7, 3);
    }

    private static void longPlays() {
        ReplayBox box = Programs.ran("GO 0");
        played("LONG", box, 0, 0, 300, 4);
        box = Programs.box("SET 0 99; SET 1 1; SET 2 0; LESS 0 1; UNLESS 0 6; GO 3; SET 3 1");
        box.run();
        played("300 steps and none more", box, 0, 0, 300, 0);
        Programs.add(box, 0, "SET 3 2");
        played("300 steps and one more", box, 0, 0, 300, 4);
        box.clear(0);
        Programs.add(box, 0, "SET 0 99; SET 1 1; SET 2 0; LESS 0 1; UNLESS 0 6; GO 3; FAIL");
        played("FAILED in step 300", box, 0, 0, 300, 3);
        box = Programs.box("SET 0 98; SET 1 1; SET 2 0; LESS 0 1; UNLESS 0 6; GO 3; SET 3 1; SET 3 2; SET 3 3; INPUT 0");
        box.input(1);
        box.run();
        played("an INPUT that isn't known as step 300", box, 0, 0, 299, 2);
    }

    private static void nothingElseChanges() {
        ReplayBox box = counters();
        box.run();
        box.to(3);
        box.clear(0);
        box.cell(0, 50);
        box.play(0, 0);
        due.is("told(1) stays", box.told(1), 9);
        due.is("THE VIEW stays", box.back(0), 3);
        box.to(9);
        due.is("CELL 0 stays", Programs.cell(box, 0), 5);
        box.run();
        due.is("ended() is of the latest play", box.ended(), 0);
    }
}
