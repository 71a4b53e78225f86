/** Promises 26 and 27: schedules of few CHANGES. */
public final class FindTest {
    private static final Due due = new Due();

    public static void main(String[] args) {
        refusals();
        withoutChange();
        withOne();
        withTwo();
        order();
        limits();
        noFreeThread();
        nothingElseIsTold();
        due.close();
    }

    private static void foundIs(String what, ReplayBox box, int... want) {
        for (int k = 0; k < want.length; k++) {
            due.is(what + ": found(" + k + ")", box.found(k), want[k]);
        }
    }

    private static void refusals() {
        ReplayBox box = Programs.box("FAIL 0 2");
        due.is("find(-1, 1)", box.find(-1, 1), -1);
        due.is("find(3, 1)", box.find(3, 1), -1);
        due.is("find(0, 0)", box.find(0, 0), -1);
        due.is("find(0, 101)", box.find(0, 101), -1);
        due.is("found(-1)", box.found(-1), -1);
        due.is("found(7)", box.found(7), -1);
        foundIs("ahead of a find()", box, -2, -2, -2, -2, -2, -2, 0);
        due.is("find(0, 1)", box.find(0, 1), 1);
        due.is("find(3, 1) again", box.find(3, 1), -1);
        due.is("a refused find() changes nothing", box.found(5), 12);
        due.is("found(7) behind a find()", box.found(7), -1);
    }

    private static void withoutChange() {
        ReplayBox box = Programs.box("SET 0 1; FAIL 0 3");
        due.is("the first one FAILS", box.find(2, 100), 1);
        foundIs("the first one", box, 0, -2, -2, -2, -2, 13, 1);
        box.clear(0);
        due.is("none FAILS", box.find(2, 100), 0);
        foundIs("none", box, -2, -2, -2, -2, -2, -2, 1);
    }

    // It FAILS if THREAD 1 goes between the two PUTS.
    private static ReplayBox oneChange() {
        return Programs.box("START 1; SET 0 1; PUT 0 0; SET 0 0; PUT 0 0", "GET 0 0; UNLESS 0 3; FAIL 0 4");
    }

    private static void withOne() {
        ReplayBox box = oneChange();
        due.is("none without a CHANGE", box.find(0, 100), 0);
        due.is("runs made", box.found(6), 1);
        due.is("behind three steps", box.find(1, 100), 4);
        foundIs("one", box, 1, 3, 1, -2, -2, 14, 4);
        due.is("with two allowed it is the same", box.find(2, 100), 4);
        box.turn(0, 3);
        box.turn(1, 1);
        due.is("TURNS are nothing to it", box.find(1, 100), 4);
        box.cell(0, 1);
        due.is("with CELL 0 at first 1", box.find(2, 100), 2);
        foundIs("then", box, 1, 1, 1, -2, -2, 14, 2);
    }

    private static void withTwo() {
        ReplayBox box = Programs.box("START 1; SET 0 1; PUT 0 0; SET 0 0; PUT 0 0",
                "GET 0 0; GET 1 0; UNLESS 0 4; UNLESS 1 5; END; FAIL 0 9");
        // With one CHANGE both GETS see the same: THREAD 1 must go between the PUTS, and THREAD 0 between the GETS.
        due.is("none with one", box.find(1, 100), 0);
        int ones = box.found(6);
        due.is("runs with one: behind 1 to 4 steps THREAD 1, behind none later", ones, 5);
        int number = box.find(2, 100);
        due.is("it FAILS with two", number > ones ? 1 : 0, 1);
        foundIs("two", box, 2, 3, 1, 4, 0, 19, number);
        // Behind (1, 1) THREAD 1 has four steps: THREAD 0 can go instead of the second to the fourth; likewise (2, 1).
        due.is("its number", number, ones + 3 + 3 + 1);
        due.is("one run fewer does not get there", box.find(2, number - 1), 0);
        due.is("runs made", box.found(6), number - 1);
    }

    private static void order() {
        // Behind one step nobody else can go; behind two THREAD 1, behind three 1 and 2, and so on.
        ReplayBox box = Programs.box("SET 1 1; START 1; START 2; PUT 0 1; SET 2 1", "GET 0 1; UNLESS 0 3; FAIL 0 1",
                "GET 0 0; UNLESS 0 4; SET 1 1; PUT 1 1; END");
        // In the run without a CHANGE: 0 five steps, 1 GET UNLESS, 2 GET UNLESS SET PUT END.
        due.is("1: it goes first, so CELL 1 is 0", box.find(0, 100), 0);
        // With one: (2,1); (3,1), (3,2): THREAD 2 reads CELL 0 as 0; (4,1), (4,2): it puts CELL 1, then 0, then 1 FAILS.
        due.is("the least steps, then the least THREAD", box.find(1, 100), 6);
        foundIs("that one", box, 1, 4, 2, -2, -2, 11, 6);
        due.is("five runs do not get there", box.find(1, 5), 0);
        foundIs("none", box, -2, -2, -2, -2, -2, -2, 5);
        due.is("six do", box.find(1, 6), 6);
    }

    private static void limits() {
        ReplayBox box = Programs.box("START 1; GO 1", "GO 0");
        due.is("100 runs", box.find(2, 100), 0);
        due.is("runs made", box.found(6), 100);
        due.is("one run", box.find(2, 1), 0);
        due.is("runs made", box.found(6), 1);
        due.is("two runs", box.find(1, 2), 0);
        due.is("runs made", box.found(6), 2);
        box = Programs.box("GO 0");
        due.is("a LONG run alone", box.find(2, 100), 0);
        due.is("runs made", box.found(6), 1);
        ReplayBox longest = Programs.box("SET 0 98; SET 1 1; START 1; LESS 0 1; UNLESS 0 6; GO 3; SET 2 1; SET 2 2; SET 2 3; "
                + "SET 3 1; PUT 0 3", "GET 0 0; UNLESS 0 1; FAIL 0 1");
        due.is("it FAILS only behind 300 steps", longest.find(0, 100), 0);
    }

    private static void noFreeThread() {
        ReplayBox box = Programs.box("SET 0 1; SET 0 2; SET 0 3", "FAIL");
        due.is("a THREAD that isn't STARTED can't go on", box.find(2, 100), 0);
        due.is("so there is one run", box.found(6), 1);
        // THREAD 1 would go on by itself behind step 1: it is no other one.
        box = Programs.box("START 1", "SET 0 1; SET 0 2");
        due.is("the one that goes on by itself is no CHANGE", box.find(2, 100), 0);
        due.is("so there is one run, too", box.found(6), 1);
        // Fewer steps than the run would have: behind its last step there is nobody, ahead of it THREAD 1 alone.
        box = Programs.box("START 1; SET 0 1", "SET 0 1");
        box.find(1, 100);
        due.is("behind one step THREAD 1, behind two it would go by itself", box.found(6), 2);
        box.find(2, 100);
        due.is("a second CHANGE behind the first: none is left that could be another", box.found(6), 2);
    }

    private static void nothingElseIsTold() {
        ReplayBox box = oneChange();
        box.run();
        box.to(2);
        due.is("told(0)", box.told(0), 0);
        due.is("find(1, 100)", box.find(1, 100), 4);
        due.is("told(0) stays", box.told(0), 0);
        due.is("told(5) stays", box.told(5), 1);
        due.is("THE VIEW stays", box.back(0), 2);
        due.is("LOCAL 0 stays", box.value(0, 0, 1), 1);
        due.is("ended() stays", box.ended(), -2);
        box.run();
        due.is("found() stays behind a run", box.found(1), 3);
        box.clear(1);
        due.is("find() of the program as it is now", box.find(2, 100), 0);
        ReplayBox fresh = oneChange();
        fresh.find(1, 100);
        due.is("find() is no run", fresh.told(0), -2);
    }
}
