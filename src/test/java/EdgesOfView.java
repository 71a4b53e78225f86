/** The sentences of promises 14 to 19: THE VIEW. */
final class EdgesOfView {
    private static final int LEAST = Edges.LEAST;
    private static final int LARGEST = Edges.LARGEST;
    private final Edges edge;

    private EdgesOfView(Edges edge) {
        this.edge = edge;
    }

    static void look(Edges edge) {
        EdgesOfView edges = new EdgesOfView(edge);
        edges.to();
        edges.back();
        edges.value();
        edges.thing();
        edges.place();
        edges.thread();
    }

    private static ReplayBox counting() {
        return Programs.ran("SET 0 1; SET 0 2; SET 0 3; SET 0 4");
    }

    private void to() {
        edge.sentence(14, "THE VIEW is behind step s (0: ahead of the first): s.");
        ReplayBox box = counting();
        for (int s : new int[] {0, 4, 1, 3, 2, 2, 0}) {
            edge.is("to(" + s + ")", box.to(s), s);
            edge.is("LOCAL 0 there", box.value(0, 0, 1), s);
        }
        ReplayBox most = Programs.ran("GO 0");
        edge.is("to(300)", most.to(300), 300);
        edge.is("to(0) of 300", most.to(0), 0);
        edge.is("to(0) of none", Programs.ran("").to(0), 0);

        edge.sentence(14, "-1: none such;");
        box.to(3);
        edge.all("to(#)", -1, box::to, LEAST, -1, 5, LARGEST);
        edge.is("THE VIEW is where it was", box.back(0), 3);
        edge.is("to(301) of 300", most.to(301), -1);
        edge.is("to(1) of none", Programs.ran("").to(1), -1);

        edge.sentence(14, "-2: there was no run.");
        edge.all("to(#)", -2, Programs.box("GO 0")::to, LEAST, -1, 0, 1, LARGEST);
    }

    private void back() {
        edge.sentence(15, "THE VIEW is n steps ahead of where it was: where it is.");
        ReplayBox box = counting();
        edge.is("back(0)", box.back(0), 4);
        edge.is("LOCAL 0 there", box.value(0, 0, 1), 4);
        edge.is("back(1)", box.back(1), 3);
        edge.is("LOCAL 0 there", box.value(0, 0, 1), 3);
        edge.is("back(3)", box.back(3), 0);
        edge.is("LOCAL 0 there", box.value(0, 0, 1), 0);
        edge.is("back(0) at the first", box.back(0), 0);
        ReplayBox most = Programs.ran("GO 0");
        edge.is("back(299) of 300", most.back(299), 1);
        most.to(300);
        edge.is("back(300) of 300", most.back(300), 0);

        edge.sentence(15, "-1: n is below 0, or that is below 0;");
        edge.all("at the first, back(#)", -1, box::back, LEAST, -1, 1, LARGEST);
        box.to(3);
        edge.all("behind step 3, back(#)", -1, box::back, LEAST, -4, -1, 4, LARGEST);
        edge.is("THE VIEW is where it was", box.back(0), 3);
        most.to(300);
        edge.is("back(301) of 300", most.back(301), -1);

        edge.sentence(15, "-2: there was no run.");
        edge.all("back(#)", -2, Programs.box("GO 0")::back, LEAST, -1, 0, 1, LARGEST);
    }

    // THINGS: 0 a ROW of 2, 1 a LOCK, 2 a GATE, in LOCALS 0, 2, 3 of THREAD 0 and in CELLS 0, 1, 11.
    private static ReplayBox kinds() {
        ReplayBox box = Programs.box("SET 1 2; ROW 0 1; LOCK 2; LOCK 3 1; PUT 0 0; PUT 1 2; PUT 11 3; START 3", "", "",
                "SET 3 " + LEAST);
        box.cell(2, LARGEST);
        box.run();
        return box;
    }

    private void value() {
        edge.sentence(16, "In THE VIEW: what a CELL holds (thread -1), or a LOCAL of a THREAD: 0 its KIND: 0 a NUMBER, 1 a ROW, 2 a LOCK, 3 a GATE;");
        ReplayBox box = kinds();
        edge.is("KIND of CELL 0", box.value(-1, 0, 0), 1);
        edge.is("KIND of CELL 1", box.value(-1, 1, 0), 2);
        edge.is("KIND of CELL 2", box.value(-1, 2, 0), 0);
        edge.is("KIND of CELL 11", box.value(-1, 11, 0), 3);
        edge.is("KIND of LOCAL 0", box.value(0, 0, 0), 1);
        edge.is("KIND of LOCAL 1", box.value(0, 1, 0), 0);
        edge.is("KIND of LOCAL 2", box.value(0, 2, 0), 2);
        edge.is("KIND of LOCAL 3", box.value(0, 3, 0), 3);
        edge.is("KIND of LOCAL 3 of THREAD 3", box.value(3, 3, 0), 0);
        box.to(3);
        edge.is("KIND of LOCAL 2, just made", box.value(0, 2, 0), 2);
        edge.is("KIND of LOCAL 3, not yet", box.value(0, 3, 0), 0);
        edge.is("KIND of CELL 0, not yet", box.value(-1, 0, 0), 0);

        edge.sentence(16, "1 the NUMBER, or the THING's number.");
        box.to(9);
        edge.is("CELL 0", box.value(-1, 0, 1), 0);
        edge.is("CELL 1", box.value(-1, 1, 1), 1);
        edge.is("CELL 2", box.value(-1, 2, 1), LARGEST);
        edge.is("CELL 11", box.value(-1, 11, 1), 2);
        edge.is("LOCAL 3", box.value(0, 3, 1), 2);
        edge.is("LOCAL 3 of THREAD 3", box.value(3, 3, 1), LEAST);
        box.to(8);
        edge.is("LOCAL 3 of THREAD 3 a step ahead", box.value(3, 3, 1), 0);

        edge.sentence(16, "IllegalArgumentException: no such THREAD, CELL or LOCAL, what;");
        edge.argument("value(#, 0, 0)", t -> box.value(t, 0, 0), LEAST, -2, 4, LARGEST);
        edge.argument("value(-1, #, 0)", c -> box.value(-1, c, 0), LEAST, -1, 12, LARGEST);
        edge.argument("value(0, #, 1)", k -> box.value(0, k, 1), LEAST, -1, 4, 11, LARGEST);
        edge.argument("value(3, #, 1)", k -> box.value(3, k, 1), LEAST, -1, 4, LARGEST);
        edge.argument("value(-1, 0, #)", what -> box.value(-1, 0, what), LEAST, -1, 2, LARGEST);
        edge.argument("value(0, 0, #)", what -> box.value(0, 0, what), LEAST, -1, 2, LARGEST);

        edge.sentence(16, "IllegalStateException: there was no run.");
        ReplayBox fresh = Programs.box("SET 0 1");
        edge.state("value(#, 0, 0)", t -> fresh.value(t, 0, 0), LEAST, -2, -1, 0, 3, 4, LARGEST);
        edge.state("value(-1, #, 0)", c -> fresh.value(-1, c, 0), -1, 0, 11, 12);
        edge.state("value(0, 0, #)", what -> fresh.value(0, 0, what), -1, 0, 1, 2);
    }

    private void thing() {
        edge.sentence(17, "In THE VIEW, of THING x: 0 KIND (as above), 1 how many places a ROW has, whose own a LOCK is (-2: it is free).");
        ReplayBox box = Programs.ran("SET 1 16; ROW 0 1; ROW 0 2; LOCK 0; LOCK 3 1; PUT 0 3; TAKE 0; START 3; "
                + "SET 1 1", "", "", "GET 0 0; TAKE 0");
        edge.is("KIND of a ROW", box.thing(0, 0), 1);
        edge.is("places of 16", box.thing(0, 1), 16);
        edge.is("places of 0", box.thing(1, 1), 0);
        edge.is("KIND of a LOCK", box.thing(2, 0), 2);
        edge.is("it is THREAD 0's", box.thing(2, 1), 0);
        edge.is("KIND of a GATE", box.thing(3, 0), 3);
        edge.is("it is THREAD 3's", box.thing(3, 1), 3);
        box.to(6);
        edge.is("the LOCK a step ahead", box.thing(2, 1), -2);
        edge.is("the GATE then", box.thing(3, 1), -2);

        edge.sentence(17, "-1: none such, what;");
        edge.all("thing(#, 0)", -1, x -> box.thing(x, 0), LEAST, -1, 4, 11, 12, LARGEST);
        edge.all("thing(0, #)", -1, what -> box.thing(0, what), LEAST, -1, 2, LARGEST);
        edge.all("thing(2, #)", -1, what -> box.thing(2, what), LEAST, -1, 2, LARGEST);
        box.to(2);
        edge.is("the last one that is made yet", box.thing(0, 0), 1);
        edge.all("not made yet: thing(#, 0)", -1, x -> box.thing(x, 0), 1, 2, 3);
        box.to(0);
        edge.is("at first there is none", box.thing(0, 0), -1);
        ReplayBox most = Programs.ran("LOCK 0; GO 0");
        edge.is("thing(11, 0) of 12", most.thing(11, 0), 2);
        edge.is("thing(12, 0) of 12", most.thing(12, 0), -1);

        edge.sentence(17, "-2: there was no run, too.");
        ReplayBox fresh = Programs.box("LOCK 0");
        edge.all("thing(#, 0)", -2, x -> fresh.thing(x, 0), LEAST, -1, 0, 12, LARGEST);
        edge.all("thing(0, #)", -2, what -> fresh.thing(0, what), -1, 1, 2);
    }

    private void place() {
        edge.sentence(18, "In THE VIEW: the NUMBER at place i of ROW x.");
        String row = "SET 1 16; ROW 0 1; LOCK 3; ROW 3 2; SET 1 15; SET 2 " + LEAST
                + "; WRITE 0 1 2; SET 1 0; WRITE 0 1 2";
        ReplayBox box = Programs.ran(row);
        edge.is("place 0", box.place(0, 0), LEAST);
        edge.is("place 1", box.place(0, 1), 0);
        edge.is("place 15", box.place(0, 15), LEAST);
        box.to(8);
        edge.is("place 0 a step ahead", box.place(0, 0), 0);
        edge.is("place 15 then", box.place(0, 15), LEAST);
        ReplayBox last = Programs.ran("LOCK 0; ".repeat(11) + "SET 1 16; ROW 0 1; SET 1 15; WRITE 0 1 1");
        edge.is("the last place of THING 11", last.place(11, 15), 15);

        edge.sentence(18, "IllegalArgumentException: there is none such;");
        edge.argument("place(0, #)", i -> box.place(0, i), LEAST, -1, 16, LARGEST);
        edge.argument("place(#, 0)", x -> box.place(x, 0), LEAST, -1, 3, 12, LARGEST);
        edge.argument("of a LOCK, place(1, #)", i -> box.place(1, i), -1, 0);
        edge.argument("of a ROW of 0, place(2, #)", i -> box.place(2, i), -1, 0);
        edge.argument("place(11, #)", i -> last.place(11, i), -1, 16);
        edge.argument("place(12, #)", i -> last.place(12, i), 0);
        box.to(1);
        edge.argument("not made yet, place(0, #)", i -> box.place(0, i), 0, 15);

        edge.sentence(18, "IllegalStateException: there was no run.");
        ReplayBox fresh = Programs.box(row);
        edge.state("place(#, 0)", x -> fresh.place(x, 0), LEAST, -1, 0, 12, LARGEST);
        edge.state("place(0, #)", i -> fresh.place(0, i), LEAST, -1, 0, 16, LARGEST);
    }

    private void thread() {
        edge.sentence(19, "In THE VIEW, of a THREAD: 0 its next INSTRUCTION (24 if there is none),");
        ReplayBox box = Programs.ran("SET 0 1; ".repeat(23) + "START 3", "SET 0 1", "", "SET 0 1; GO -1");
        edge.is("THREAD 0 in the end", box.thread(0, 0), 24);
        edge.is("THREAD 1, not STARTED", box.thread(1, 0), 0);
        edge.is("THREAD 2, without INSTRUCTIONS", box.thread(2, 0), 24);
        edge.is("THREAD 3, behind GO -1", box.thread(3, 0), 24);
        box.to(25);
        edge.is("THREAD 3 at its GO", box.thread(3, 0), 1);
        box.to(23);
        edge.is("THREAD 0 at INSTRUCTION 23", box.thread(0, 0), 23);
        box.to(0);
        edge.is("THREAD 0 at first", box.thread(0, 0), 0);

        edge.sentence(19, "1: 0 it isn't STARTED, 1 CAN GO, 2 can't, 3 ASLEEP, 4 has ENDED.");
        ReplayBox all = Programs.box("LOCK 0 1; PUT 0 0; START 1; START 2; TAKE 0; END", "GET 0 0; TAKE 0; WAIT 0",
                "GET 0 0; TAKE 0", "SET 0 1");
        all.turn(0, 4);
        all.turn(1, 3);
        all.turn(2, 1);
        all.turn(0, 2);
        all.run();
        edge.is("THREAD 0", all.thread(0, 1), 4);
        edge.is("THREAD 1", all.thread(1, 1), 3);
        edge.is("THREAD 2", all.thread(2, 1), 2);
        edge.is("THREAD 3", all.thread(3, 1), 0);
        all.to(9);
        edge.is("THREAD 0 a step ahead", all.thread(0, 1), 1);
        all.to(8);
        edge.is("THREAD 2, the GATE is free", all.thread(2, 1), 1);
        all.to(6);
        edge.is("THREAD 1 with the GATE", all.thread(1, 1), 1);
        all.to(2);
        edge.is("THREAD 1, not STARTED yet", all.thread(1, 1), 0);
        edge.is("one without INSTRUCTIONS that isn't STARTED", Programs.ran("").thread(3, 1), 0);
        edge.is("one without INSTRUCTIONS that is", Programs.ran("START 3").thread(3, 1), 4);

        edge.sentence(19, "-1;");
        edge.all("thread(#, 0)", -1, t -> all.thread(t, 0), LEAST, -1, 4, LARGEST);
        edge.all("thread(0, #)", -1, what -> all.thread(0, what), LEAST, -1, 2, LARGEST);

        edge.sentence(19, "-2: there was no run.");
        ReplayBox fresh = Programs.box("SET 0 1");
        edge.all("thread(#, 0)", -2, t -> fresh.thread(t, 0), LEAST, -1, 0, 3, 4, LARGEST);
        edge.all("thread(0, #)", -2, what -> fresh.thread(0, what), -1, 1, 2);
    }
}
