/** Promises 14 to 19: THE VIEW. */
public final class ViewTest {
    private static final Due due = new Due();

    public static void main(String[] args) {
        withoutRun();
        toAndBack();
        values();
        valueRefusals();
        things();
        places();
        threads();
        backAndForth();
        due.close();
    }

    private static void withoutRun() {
        ReplayBox box = Programs.box("SET 0 1");
        due.is("to(0)", box.to(0), -2);
        due.is("to(-1)", box.to(-1), -2);
        due.is("back(0)", box.back(0), -2);
        due.is("back(-1)", box.back(-1), -2);
        due.state("value(0, 0, 0)", () -> box.value(0, 0, 0));
        due.state("value(9, 9, 9)", () -> box.value(9, 9, 9));
        due.is("thing(0, 0)", box.thing(0, 0), -2);
        due.is("thing(-1, 9)", box.thing(-1, 9), -2);
        due.state("place(0, 0)", () -> box.place(0, 0));
        due.state("place(-1, -1)", () -> box.place(-1, -1));
        due.is("thread(0, 0)", box.thread(0, 0), -2);
        due.is("thread(4, 2)", box.thread(4, 2), -2);
    }

    private static void toAndBack() {
        ReplayBox box = Programs.ran("SET 0 1; SET 0 2; SET 0 3; SET 0 4");
        due.is("THE VIEW is behind the last step", box.value(0, 0, 1), 4);
        due.is("to(5)", box.to(5), -1);
        due.is("to(-1)", box.to(-1), -1);
        due.is("to(2)", box.to(2), 2);
        due.is("behind step 2", box.value(0, 0, 1), 2);
        due.is("to(-1) changes nothing", box.to(-1), -1);
        due.is("back(0)", box.back(0), 2);
        due.is("back(-1)", box.back(-1), -1);
        due.is("back(least)", box.back(Integer.MIN_VALUE), -1);
        due.is("back(largest)", box.back(Integer.MAX_VALUE), -1);
        due.is("back(3)", box.back(3), -1);
        due.is("back(1)", box.back(1), 1);
        due.is("behind step 1", box.value(0, 0, 1), 1);
        due.is("back(1) to the start", box.back(1), 0);
        due.is("ahead of the first", box.value(0, 0, 1), 0);
        due.is("back(1) at the start", box.back(1), -1);
        due.is("to(4)", box.to(4), 4);
        due.is("behind step 4", box.value(0, 0, 1), 4);
    }

    private static void values() {
        ReplayBox box = Programs.box("SET 1 2; ROW 0 1; LOCK 2; LOCK 3 1; PUT 0 0; PUT 1 2; PUT 2 3; PUT 3 1; START 3", "",
                "", "GET 3 2; SET 0 -9");
        box.cell(11, 12);
        box.run();
        for (int k = 0; k < 4; k++) {
            due.is("KIND of CELL " + k, box.value(-1, k, 0), new int[] {1, 2, 3, 0}[k]);
            due.is("number of CELL " + k, box.value(-1, k, 1), new int[] {0, 1, 2, 2}[k]);
        }
        due.is("CELL 11", box.value(-1, 11, 1), 12);
        due.is("KIND of THREAD 3's LOCAL 3", box.value(3, 3, 0), 3);
        due.is("its number", box.value(3, 3, 1), 2);
        due.is("THREAD 3's LOCAL 0", box.value(3, 0, 1), -9);
        due.is("THREAD 2's LOCAL 0", box.value(2, 0, 1), 0);
        box.to(4);
        due.is("KIND of CELL 0 earlier", box.value(-1, 0, 0), 0);
        due.is("CELL 11 earlier", box.value(-1, 11, 1), 12);
    }

    private static void valueRefusals() {
        ReplayBox box = Programs.ran("SET 0 1");
        due.argument("THREAD -2", () -> box.value(-2, 0, 0));
        due.argument("THREAD 4", () -> box.value(4, 0, 0));
        due.argument("CELL -1", () -> box.value(-1, -1, 0));
        due.argument("CELL 12", () -> box.value(-1, 12, 0));
        due.argument("LOCAL -1", () -> box.value(0, -1, 0));
        due.argument("LOCAL 4", () -> box.value(3, 4, 0));
        due.argument("what -1", () -> box.value(0, 0, -1));
        due.argument("what 2", () -> box.value(-1, 0, 2));
        due.argument("the largest", () -> box.value(Integer.MAX_VALUE, Integer.MAX_VALUE, 0));
        due.is("value(0, 0, 1)", box.value(0, 0, 1), 1);
    }

    private static void things() {
        ReplayBox box = Programs.ran("SET 1 3; ROW 0 1; LOCK 2; LOCK 3 1; TAKE 3; PUT 0 3; START 1; SET 0 0; LEAVE 3",
                "GET 0 0; TAKE 0");
        due.is("KIND of a ROW", box.thing(0, 0), 1);
        due.is("its places", box.thing(0, 1), 3);
        due.is("KIND of a LOCK", box.thing(1, 0), 2);
        due.is("it is free", box.thing(1, 1), -2);
        due.is("KIND of a GATE", box.thing(2, 0), 3);
        due.is("it is THREAD 1's", box.thing(2, 1), 1);
        due.is("thing(3, 0)", box.thing(3, 0), -1);
        due.is("thing(-1, 0)", box.thing(-1, 0), -1);
        due.is("thing(0, 2)", box.thing(0, 2), -1);
        due.is("thing(0, -1)", box.thing(0, -1), -1);
        box.to(3);
        due.is("a THING that isn't made yet", box.thing(2, 0), -1);
        due.is("one that is", box.thing(1, 0), 2);
        box.to(5);
        due.is("the GATE is THREAD 0's", box.thing(2, 1), 0);
        box.to(0);
        due.is("no THING at first", box.thing(0, 0), -1);
    }

    private static void places() {
        ReplayBox box = Programs.ran("SET 1 2; ROW 0 1; SET 2 1; WRITE 0 2 1; LOCK 3; SET 1 -4; WRITE 0 2 1; SET 2 0; ROW 3 2");
        due.is("place(0, 0)", box.place(0, 0), 0);
        due.is("place(0, 1)", box.place(0, 1), -4);
        due.argument("place(0, 2)", () -> box.place(0, 2));
        due.argument("place(0, -1)", () -> box.place(0, -1));
        due.argument("place of a LOCK", () -> box.place(1, 0));
        due.argument("place of an empty ROW", () -> box.place(2, 0));
        due.argument("place of no THING", () -> box.place(3, 0));
        due.argument("place(-1, 0)", () -> box.place(-1, 0));
        box.to(4);
        due.is("place(0, 1) behind step 4", box.place(0, 1), 2);
        box.to(3);
        due.is("place(0, 1) behind step 3", box.place(0, 1), 0);
        box.to(1);
        due.argument("a ROW that isn't made yet", () -> box.place(0, 0));
    }

    private static void threads() {
        ReplayBox box = Programs.ran("LOCK 0; PUT 0 0; TAKE 0; START 1; START 2; SET 1 1; END; SET 1 2",
                "GET 0 0; TAKE 0; SET 1 2", "", "SET 0 1");
        due.is("thread(-1, 0)", box.thread(-1, 0), -1);
        due.is("thread(4, 0)", box.thread(4, 0), -1);
        due.is("thread(0, -1)", box.thread(0, -1), -1);
        due.is("thread(0, 2)", box.thread(0, 2), -1);
        due.is("THREAD 0 behind END", box.thread(0, 0), 24);
        due.is("it has ENDED", box.thread(0, 1), 4);
        due.is("THREAD 1 at TAKE", box.thread(1, 0), 1);
        due.is("it can't go", box.thread(1, 1), 2);
        due.is("THREAD 2 has no INSTRUCTION", box.thread(2, 0), 24);
        due.is("it was STARTED: ENDED", box.thread(2, 1), 4);
        due.is("THREAD 3 would begin at 0", box.thread(3, 0), 0);
        due.is("it isn't STARTED", box.thread(3, 1), 0);
        box.to(3);
        due.is("THREAD 1 isn't STARTED yet", box.thread(1, 1), 0);
        due.is("THREAD 2 isn't either, INSTRUCTIONS or not", box.thread(2, 1), 0);
        due.is("THREAD 0 CAN GO", box.thread(0, 1), 1);
        due.is("its next INSTRUCTION", box.thread(0, 0), 3);
        box.to(4);
        due.is("THREAD 1 CAN GO", box.thread(1, 1), 1);
        ReplayBox failed = Programs.ran("SET 0 1; FAIL 0 1");
        due.is("the one that FAILED is where it was", failed.thread(0, 0), 1);
        due.is("and CAN GO", failed.thread(0, 1), 1);
        due.is("a TAKE of one's own isn't one that can't", Programs.ran("LOCK 0; TAKE 0; TAKE 0").thread(0, 1), 1);
        due.is("a TAKE of no LOCK isn't one that can't", Programs.ran("TAKE 0").thread(0, 1), 1);
    }

    private static void backAndForth() {
        ReplayBox box = Programs.ran("SET 1 1; GET 0 0; ADD 0 1; PUT 0 0; GO 1");
        int steps = box.told(1);
        due.is("LONG", steps, 300);
        for (int s = 0; s <= steps; s += 7) {
            box.to(s);
            due.is("CELL 0 behind " + s, Programs.cell(box, 0), s / 4);
            box.to(steps - s);
            due.is("CELL 0 behind " + (steps - s), Programs.cell(box, 0), (steps - s) / 4);
        }
    }
}
