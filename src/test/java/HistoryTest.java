/** Promises 20 to 25: who wrote and read, SPANS, AHEAD, RACES, what differs. */
public final class HistoryTest {
    private static final Due due = new Due();

    public static void main(String[] args) {
        withoutRun();
        lastWrites();
        nextReads();
        rowPlaces();
        spans();
        spanRefusals();
        aheadByThread();
        aheadByLock();
        aheadByGate();
        races();
        racesOfMany();
        racesOfLongRuns();
        differences();
        due.close();
    }

    private static void withoutRun() {
        ReplayBox box = Programs.box("SET 0 1");
        due.is("last(0, 0)", box.last(0, 0), -2);
        due.is("last(0, -1)", box.last(0, -1), -2);
        due.is("next(0, 0)", box.next(0, 0), -2);
        due.is("next(0, 999)", box.next(0, 999), -2);
        due.is("when(0, 0, 0, 0)", box.when(0, 0, 0, 0), -2);
        due.is("when(12, 0, 0, 9)", box.when(12, 0, 0, 9), -2);
        due.is("ahead(1, 2)", box.ahead(1, 2), -2);
        due.is("ahead(2, 1)", box.ahead(2, 1), -2);
        due.is("race(0, 0)", box.race(0, 0), -2);
        due.is("race(0, 9)", box.race(0, 9), -2);
        due.is("differ(0, 0)", box.differ(0, 0), -2);
        due.is("differ(-1, 0)", box.differ(-1, 0), -2);
    }

    // Steps 2 and 5 write CELL 0, 3 and 6 read it; 4 sets.
    private static ReplayBox readsAndWrites() {
        return Programs.ran("SET 0 1; PUT 0 0; GET 1 0; SET 0 2; PUT 0 0; GET 1 0; GET 1 11");
    }

    private static void lastWrites() {
        ReplayBox box = readsAndWrites();
        int[] want = {0, 0, 2, 2, 2, 5, 5, 5};
        for (int s = 0; s < want.length; s++) {
            due.is("last(0, " + s + ")", box.last(0, s), want[s]);
        }
        due.is("last of a CELL that is only read", box.last(11, 7), 0);
        due.is("last of no PLACE", box.last(12, 7), 0);
        due.is("last(-2, 7)", box.last(-2, 7), 0);
        due.is("last(-1, 7)", box.last(-1, 7), 0);
        due.is("last(least, 7)", box.last(Integer.MIN_VALUE, 7), 0);
        due.is("last(0, -1)", box.last(0, -1), -1);
        due.is("last(0, 8)", box.last(0, 8), -1);
    }

    private static void nextReads() {
        ReplayBox box = readsAndWrites();
        int[] want = {3, 3, 3, 6, 6, 6, 0, 0};
        for (int s = 0; s < want.length; s++) {
            due.is("next(0, " + s + ")", box.next(0, s), want[s]);
        }
        due.is("next(11, 0)", box.next(11, 0), 7);
        due.is("next(11, 7)", box.next(11, 7), 0);
        due.is("next(-2, 0)", box.next(-2, 0), 0);
        due.is("next(5, 0)", box.next(5, 0), 0);
        due.is("next(0, -1)", box.next(0, -1), -1);
        due.is("next(0, 8)", box.next(0, 8), -1);
    }

    private static void rowPlaces() {
        ReplayBox box = Programs.ran("SET 1 2; ROW 0 1; ROW 0 1; SET 1 1; WRITE 0 1 1; READ 2 0 1; SET 1 5; READ 2 0 1");
        due.is("last(121, 8)", box.last(121, 8), 5);
        due.is("last(101, 8)", box.last(101, 8), 0);
        due.is("next(121, 0)", box.next(121, 0), 6);
        due.is("a READ that FAILS reads none", box.next(121, 6), 0);
        due.is("nor beyond", box.next(125, 0), 0);
    }

    private static ReplayBox spanned() {
        ReplayBox box = Programs.box("SET 0 4; PUT 0 0; PUT 0 0; SET 0 5; PUT 0 0; SET 0 4; PUT 0 0; LOCK 1; PUT 0 1; SET 1 1");
        box.cell(0, 5);
        box.run();
        return box;
    }

    private static void span(ReplayBox box, int v, int i, int first, int last) {
        due.is("when(0, " + v + ", " + i + ", 1)", box.when(0, v, i, 1), first);
        due.is("when(0, " + v + ", " + i + ", 2)", box.when(0, v, i, 2), last);
    }

    private static void spans() {
        ReplayBox box = spanned();
        due.is("SPANS of 5", box.when(0, 5, 0, 0), 2);
        span(box, 5, 0, 0, 1);
        span(box, 5, 1, 5, 6);
        due.is("SPANS of 4", box.when(0, 4, 99, 0), 2);
        span(box, 4, 0, 2, 4);
        span(box, 4, 1, 7, 8);
        due.is("a LOCK 0 is no NUMBER 0", box.when(0, 0, 0, 0), 0);
        due.is("SPANS of another CELL", box.when(11, 0, -7, 0), 1);
        due.is("its first", box.when(11, 0, 0, 1), 0);
        due.is("its last is the run's last", box.when(11, 0, 0, 2), 10);
        ReplayBox none = new ReplayBox();
        none.run();
        due.is("SPANS of a run of no step", none.when(3, 0, 0, 0), 1);
        due.is("its last", none.when(3, 0, 0, 2), 0);
        ReplayBox end = Programs.ran("SET 0 1; PUT 2 0");
        due.is("a SPAN of the last step alone", end.when(2, 1, 0, 1), 2);
        due.is("its last", end.when(2, 1, 0, 2), 2);
    }

    private static void spanRefusals() {
        ReplayBox box = spanned();
        due.is("CELL -1", box.when(-1, 5, 0, 0), -1);
        due.is("CELL 12", box.when(12, 5, 0, 0), -1);
        due.is("what -1", box.when(0, 5, 0, -1), -1);
        due.is("what 3", box.when(0, 5, 0, 3), -1);
        for (int what = 1; what <= 2; what++) {
            due.is("SPAN 2", box.when(0, 5, 2, what), -1);
            due.is("SPAN -1", box.when(0, 5, -1, what), -1);
            due.is("SPAN 0 of none", box.when(0, 77, 0, what), -1);
            due.is("SPAN -1 of none", box.when(0, 77, -1, what), -1);
        }
    }

    private static void aheadByThread() {
        ReplayBox box = Programs.box("SET 0 1; START 1; SET 0 2; SET 0 3", "SET 0 1; START 2; SET 0 2", "SET 0 1");
        box.turn(0, 3);
        box.turn(1, 2);
        box.turn(2, 1);
        box.run();
        due.rows("its steps", Programs.stepThreads(box), 0, 0, 0, 1, 1, 2, 0, 1);
        due.is("of one THREAD", box.ahead(1, 7), 1);
        due.is("START is ahead of the one STARTED", box.ahead(2, 4), 1);
        due.is("of all its steps", box.ahead(2, 8), 1);
        due.is("what is ahead of START, too", box.ahead(1, 4), 1);
        due.is("over two STARTS", box.ahead(1, 6), 1);
        due.is("behind START not", box.ahead(3, 4), 0);
        due.is("over two not either", box.ahead(3, 6), 0);
        due.is("nor back", box.ahead(4, 7), 0);
        due.is("nor on", box.ahead(6, 8), 0);
        due.is("ahead(0, 1)", box.ahead(0, 1), -1);
        due.is("ahead(1, 1)", box.ahead(1, 1), -1);
        due.is("ahead(2, 1)", box.ahead(2, 1), -1);
        due.is("ahead(8, 9)", box.ahead(8, 9), -1);
        due.is("ahead(-1, 8)", box.ahead(-1, 8), -1);
    }

    private static void aheadByLock() {
        ReplayBox box = Programs.box("LOCK 0; LOCK 1; PUT 0 0; PUT 1 1; START 1; START 2; TAKE 0; LEAVE 0; SET 2 1",
                "GET 0 0; TAKE 0; LEAVE 0; SET 2 1", "GET 0 1; TAKE 0; LEAVE 0; GET 0 0; TAKE 0; SET 2 1");
        box.run();
        // 0: steps 1 to 9, 1: 10 to 13, 2: 14 to 19.
        due.is("LEAVE is ahead of TAKE", box.ahead(8, 11), 1);
        due.is("and of what follows", box.ahead(8, 13), 1);
        due.is("what is ahead of LEAVE is, too", box.ahead(7, 11), 1);
        due.is("not of what was before TAKE", box.ahead(8, 10), 0);
        due.is("behind LEAVE not", box.ahead(9, 13), 0);
        due.is("another LOCK is nothing", box.ahead(8, 15), 0);
        due.is("the LOCK after all", box.ahead(8, 18), 1);
        due.is("of the other THREAD, too", box.ahead(12, 18), 1);
        due.is("its GET too", box.ahead(10, 19), 1);
        due.is("behind its LEAVE not", box.ahead(13, 19), 0);
    }

    private static void aheadByGate() {
        ReplayBox box = Programs.box("LOCK 0 1; PUT 0 0; START 1; SET 1 1; TAKE 0; SET 1 2; WORD 0; LEAVE 0; SET 1 3",
                "GET 0 0; TAKE 0; WAIT 0; SET 1 1");
        box.turn(0, 3);
        box.turn(1, 3);
        box.turn(0, 6);
        box.run();
        due.rows("its steps", Programs.stepThreads(box), 0, 0, 0, 1, 1, 1, 0, 0, 0, 0, 0, 0, 1, 1);
        due.is("WAIT that lies down is ahead of TAKE", box.ahead(6, 8), 1);
        due.is("not of what was before", box.ahead(6, 7), 0);
        due.is("WORD is ahead of the step behind WAIT", box.ahead(10, 13), 1);
        due.is("LEAVE is", box.ahead(11, 13), 1);
        due.is("what is before WORD is", box.ahead(7, 14), 1);
        due.is("behind LEAVE not", box.ahead(12, 13), 0);
    }

    private static void races() {
        ReplayBox box = Programs.box("START 1; PUT 3 0; GET 0 4; PUT 5 0", "PUT 3 0; GET 0 4; GET 0 5; PUT 3 0");
        box.run();
        // 0: steps 1 to 4, 1: 5 to 8.
        int[][] want = {{2, 5, 3}, {4, 7, 5}, {2, 8, 3}};
        due.is("how many", box.race(-5, 0), want.length);
        for (int i = 0; i < want.length; i++) {
            for (int what = 1; what <= 3; what++) {
                due.is("race(" + i + ", " + what + ")", box.race(i, what), want[i][what - 1]);
            }
        }
        due.is("race(3, 1)", box.race(3, 1), -1);
        due.is("race(-1, 1)", box.race(-1, 1), -1);
        due.is("race(0, 4)", box.race(0, 4), -1);
        due.is("race(0, -1)", box.race(0, -1), -1);
        due.is("of the new run", secondRun(box), 0);
    }

    private static int secondRun(ReplayBox box) {
        box.clear(1);
        box.run();
        return box.race(0, 0);
    }

    private static void racesOfMany() {
        ReplayBox box = Programs.box("START 1; START 2; SET 1 2; ROW 0 1; PUT 0 0; PUT 1 1; PUT 1 1",
                "PUT 1 0; GET 0 0; WRITE 0 1 1", "GET 3 1; GET 0 0; READ 2 0 1; PUT 1 1");
        box.run();
        // 0: 1 to 7; 1: 8 PUT 1, 9 GET 0, 10 WRITE; 2: 11 GET 1, 12 GET 0, 13 READ, 14 PUT 1.
        int[][] want = {{6, 8, 1}, {7, 8, 1}, {5, 9, 0}, {6, 11, 1}, {7, 11, 1}, {8, 11, 1}, {5, 12, 0}, {10, 13, 100},
                {6, 14, 1}, {7, 14, 1}, {8, 14, 1}};
        due.is("how many", box.race(0, 0), want.length);
        for (int i = 0; i < want.length; i++) {
            due.is("race(" + i + ", 1)", box.race(i, 1), want[i][0]);
            due.is("race(" + i + ", 2)", box.race(i, 2), want[i][1]);
            due.is("race(" + i + ", 3)", box.race(i, 3), want[i][2]);
        }
    }

    // Four THREADS of PUT and GO, 9 TURNS of 4 PUTS each; behind these THREAD 3, which went last, has 4 PUTS more.
    private static void racesOfLongRuns() {
        ReplayBox box = Programs.box("START 1; START 2; START 3; SET 0 1; PUT 9 0; GO 4", "PUT 9 0; GO 0",
                "PUT 9 0; GO 0", "PUT 9 0; GO 0");
        box.turn(0, 4);
        for (int k = 0; k < 36; k++) {
            box.turn(k % 4, 8);
        }
        due.is("LONG", box.run(), 3);
        due.is("THREAD 3 goes on", box.step(300, 0), 3);
        int pairs = 3 * 36 * 36 + 3 * 36 * 40;
        due.is("all pairs of PUTS of two THREADS", box.race(0, 0), pairs);
        due.is("the last one's later step", box.race(pairs - 1, 2), 299);
        due.is("its earlier step: THREAD 2's last PUT", box.race(pairs - 1, 1), 283);
        due.is("ahead(1, 300)", box.ahead(1, 300), 1);
        due.is("ahead(299, 300)", box.ahead(299, 300), 1);
        due.is("ahead(283, 300)", box.ahead(283, 300), 0);
    }

    private static void differences() {
        ReplayBox box = Programs.ran("SET 0 0; SET 0 1; LOCK 0; PUT 0 0; START 1; END", "SET 3 1; GO 0");
        due.is("the next INSTRUCTION alone", box.differ(0, 1), 1);
        due.is("back", box.differ(1, 0), 1);
        due.is("a LOCAL", box.differ(1, 2), 2);
        due.is("a LOCAL that holds a THING", box.differ(2, 3), 2);
        due.is("THING 0 is not NUMBER 0", box.differ(0, 3), 2);
        due.is("a CELL and the next INSTRUCTION", box.differ(3, 4), 2);
        due.is("the THREAD that ENDS", box.differ(5, 6), 1);
        due.is("another THREAD", box.differ(6, 7), 2);
        due.is("the next INSTRUCTION of another THREAD", box.differ(7, 8), 1);
        due.is("where it comes back to", box.differ(7, 9), 0);
        due.is("all of it", box.differ(0, 300), 4);
        due.is("differ(-1, 0)", box.differ(-1, 0), -1);
        due.is("differ(0, -1)", box.differ(0, -1), -1);
        due.is("differ(0, 301)", box.differ(0, 301), -1);
        due.is("differ(301, 0)", box.differ(301, 0), -1);
        box.to(2);
        box.differ(5, 1);
        due.is("THE VIEW stays", box.value(0, 0, 1), 1);
        ReplayBox asleep = Programs.ran("LOCK 0 1; TAKE 0; WAIT 0");
        due.is("to fall ASLEEP is none of these", asleep.differ(2, 3), 0);
    }
}
