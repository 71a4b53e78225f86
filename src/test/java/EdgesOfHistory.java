/** The sentences of promises 20 to 25: who wrote and read, SPANS, AHEAD, RACES, what differs. */
final class EdgesOfHistory {
    private static final int LEAST = Edges.LEAST;
    private static final int LARGEST = Edges.LARGEST;
    private final Edges edge;

    private EdgesOfHistory(Edges edge) {
        this.edge = edge;
    }

    static void look(Edges edge) {
        EdgesOfHistory edges = new EdgesOfHistory(edge);
        edges.last();
        edges.next();
        edges.when();
        edges.ahead();
        edges.race();
        edges.differ();
    }

    // CELL 0 is written at steps 1 and 4, read at 2 and 5; CELL 11 is read at 3 alone.
    private static ReplayBox cells() {
        return Programs.ran("PUT 0 0; GET 0 0; GET 0 11; PUT 0 0; GET 0 0");
    }

    private void last() {
        edge.sentence(20, "The latest step, at most s, that wrote a PLACE; 0: none did.");
        ReplayBox box = cells();
        int[] want = {0, 1, 1, 1, 4, 4};
        for (int s = 0; s <= 5; s++) {
            edge.is("last(0, " + s + ")", box.last(0, s), want[s]);
        }
        edge.is("one that is only read", box.last(11, 5), 0);
        edge.all("no PLACE: last(#, 5)", 0, p -> box.last(p, 5), LEAST, -2, -1, 12, 99, 100, 335, 340, LARGEST);
        ReplayBox most = Programs.ran("PUT 5 0; GO 0");
        edge.is("of 300", most.last(5, 300), 299);
        ReplayBox row = Programs.ran("SET 1 1; ROW 0 1; SET 1 0; WRITE 0 1 1; SET 1 1; WRITE 0 1 1");
        edge.is("a place of a ROW", row.last(100, 6), 4);
        edge.is("a WRITE that FAILS writes none", row.last(101, 6), 0);

        edge.sentence(20, "-1: s is not 0 .. the run's steps;");
        edge.all("last(0, #)", -1, s -> box.last(0, s), LEAST, -1, 6, LARGEST);
        edge.is("of a PLACE that is none, too", box.last(-2, 6), -1);
        edge.is("last(5, 301) of 300", most.last(5, 301), -1);
        edge.is("last(0, 0) of none", Programs.ran("").last(0, 0), 0);
        edge.is("last(0, 1) of none", Programs.ran("").last(0, 1), -1);

        edge.sentence(20, "-2: there was no run.");
        ReplayBox fresh = Programs.box("PUT 0 0");
        edge.all("last(0, #)", -2, s -> fresh.last(0, s), LEAST, -1, 0, 1, LARGEST);
    }

    private void next() {
        edge.sentence(21, "The first step behind s that read it; 0: none did.");
        ReplayBox box = cells();
        int[] want = {2, 2, 5, 5, 5, 0};
        for (int s = 0; s <= 5; s++) {
            edge.is("next(0, " + s + ")", box.next(0, s), want[s]);
        }
        edge.is("CELL 11", box.next(11, 2), 3);
        edge.is("CELL 11, behind", box.next(11, 3), 0);
        edge.all("no PLACE: next(#, 0)", 0, p -> box.next(p, 0), LEAST, -2, -1, 12, 99, 100, 335, 340, LARGEST);
        ReplayBox most = Programs.ran("GO 2; GET 0 5; GO 1");
        edge.is("step 300", most.next(5, 298), 299);
        edge.is("behind 299 of 300", most.next(5, 299), 0);
        ReplayBox last = Programs.ran("GET 0 5; GO 0");
        edge.is("of 300", last.next(5, 297), 299);
        edge.is("behind step 300", last.next(5, 300), 0);
        edge.is("one that is only written", Programs.ran("PUT 3 0").next(3, 0), 0);

        edge.sentence(21, "-1,");
        edge.all("next(0, #)", -1, s -> box.next(0, s), LEAST, -1, 6, LARGEST);
        edge.is("of a PLACE that is none, too", box.next(-2, 6), -1);
        edge.is("next(5, 301) of 300", last.next(5, 301), -1);
        edge.is("next(0, 0) of none", Programs.ran("").next(0, 0), 0);

        edge.sentence(21, "-2.");
        ReplayBox fresh = Programs.box("GET 0 0");
        edge.all("next(0, #)", -2, s -> fresh.next(0, s), LEAST, -1, 0, 1, LARGEST);
    }

    // CELL 11: 5 at first, 6 behind step 2, 6 again behind 3, 5 behind 5, a LOCK with number 0 behind 7, 6 behind 8.
    private static ReplayBox spans() {
        ReplayBox box = Programs.box("SET 0 6; PUT 11 0; PUT 11 0; SET 1 5; PUT 11 1; LOCK 2; PUT 11 2; PUT 11 0");
        box.cell(11, 5);
        box.run();
        return box;
    }

    private void span(ReplayBox box, int v, int i, int first, int last) {
        edge.is("the first of SPAN " + i + " of " + v, box.when(11, v, i, 1), first);
        edge.is("the last of SPAN " + i + " of " + v, box.when(11, v, i, 2), last);
    }

    private void when() {
        edge.sentence(22, "A SPAN: of steps s from one to another, behind each of which (0: ahead of the first) a CELL holds NUMBER v, as long as can be:");
        ReplayBox box = spans();
        span(box, 5, 0, 0, 1);
        span(box, 5, 1, 5, 6);
        span(box, 6, 0, 2, 4);
        span(box, 6, 1, 8, 8);
        edge.is("THING 0 is no NUMBER 0", box.when(11, 0, 0, 0), 0);
        ReplayBox least = Programs.ran("SET 0 " + LEAST + "; PUT 11 0; GO 0");
        span(least, LEAST, 0, 2, 300);
        span(least, 0, 0, 0, 1);
        span(Programs.ran(""), 0, 0, 0, 0);
        ReplayBox first = Programs.box("PUT 11 0; SET 0 7; PUT 11 0");
        first.cell(11, 7);
        first.run();
        span(first, 7, 0, 0, 0);
        span(first, 0, 0, 1, 2);
        span(first, 7, 1, 3, 3);

        edge.sentence(22, "what 0 how many SPANS there are, 1 the first s, 2 the last one of SPAN i, from 0.");
        edge.all("when(11, 5, #, 0)", 2, i -> box.when(11, 5, i, 0), LEAST, -1, 0, 2, LARGEST);
        edge.is("SPANS of 6", box.when(11, 6, 0, 0), 2);
        edge.all("when(11, #, 0, 0)", 0, v -> box.when(11, v, 0, 0), LEAST, -1, 0, 4, 7, LARGEST);
        edge.is("SPANS of CELL 0", box.when(0, 0, 0, 0), 1);
        edge.is("SPANS of a run of no steps", Programs.ran("").when(11, 0, 0, 0), 1);
        edge.is("SPANS that are 0 alone, and the last step alone", first.when(11, 7, 0, 0), 2);
        edge.is("SPANS between them", first.when(11, 0, 0, 0), 1);
        ReplayBox most = Programs.ran("SET 0 1; PUT 0 0; PUT 0 1; GO 1");
        edge.is("the most SPANS of 1", most.when(0, 1, 0, 0), 100);
        edge.is("the most SPANS of 0, with the one at first", most.when(0, 0, 0, 0), 101);
        edge.is("the first of the last one of 1", most.when(0, 1, 99, 1), 299);
        edge.is("the last of the last one of 1", most.when(0, 1, 99, 2), 299);
        edge.is("the last of the last but one of 0", most.when(0, 0, 99, 2), 298);
        edge.is("the first of the last one of 0", most.when(0, 0, 100, 1), 300);
        edge.is("the last of the last one of 0", most.when(0, 0, 100, 2), 300);

        edge.sentence(22, "-1: no such CELL, what, SPAN (of 1, 2);");
        edge.all("when(#, 0, 0, 0)", -1, c -> box.when(c, 0, 0, 0), LEAST, -1, 12, LARGEST);
        edge.all("when(11, 5, 0, #)", -1, what -> box.when(11, 5, 0, what), LEAST, -1, 3, LARGEST);
        for (int what = 1; what <= 2; what++) {
            int w = what;
            edge.all("when(11, 5, #, " + w + ")", -1, i -> box.when(11, 5, i, w), LEAST, -1, 2, LARGEST);
            edge.all("when(11, 9, #, " + w + ") of none", -1, i -> box.when(11, 9, i, w), LEAST, -1, 0, LARGEST);
            edge.is("SPAN 100 of 100, " + w, most.when(0, 1, 100, w), -1);
            edge.is("SPAN 101 of 101, " + w, most.when(0, 0, 101, w), -1);
        }

        edge.sentence(22, "-2: there was no run.");
        ReplayBox fresh = new ReplayBox();
        edge.all("when(#, 0, 0, 0)", -2, c -> fresh.when(c, 0, 0, 0), LEAST, -1, 0, 12, LARGEST);
        edge.all("when(0, 0, 0, #)", -2, what -> fresh.when(0, 0, 0, what), -1, 0, 2, 3);
    }

    private void ahead() {
        edge.sentence(23, "Whether step s is AHEAD of step t: 1, else 0.");
        ReplayBox box = Programs.ran("START 1; SET 0 1", "SET 0 1; SET 0 2");
        int[][] want = {{1, 2, 1}, {1, 3, 1}, {1, 4, 1}, {2, 3, 0}, {2, 4, 0}, {3, 4, 1}};
        for (int[] each : want) {
            edge.is("ahead(" + each[0] + ", " + each[1] + ")", box.ahead(each[0], each[1]), each[2]);
        }
        ReplayBox most = Programs.ran("GO 0");
        edge.is("ahead(1, 300)", most.ahead(1, 300), 1);
        edge.is("ahead(299, 300)", most.ahead(299, 300), 1);

        edge.sentence(23, "-1: no such steps (s, t from 1, s before t);");
        edge.all("ahead(#, 4)", -1, s -> box.ahead(s, 4), LEAST, -1, 0, 4, 5, LARGEST);
        edge.all("ahead(1, #)", -1, t -> box.ahead(1, t), LEAST, -1, 0, 1, 5, LARGEST);
        edge.is("ahead(3, 2)", box.ahead(3, 2), -1);
        edge.is("ahead(300, 301)", most.ahead(300, 301), -1);
        edge.is("ahead(300, 300)", most.ahead(300, 300), -1);
        edge.is("of no steps", Programs.ran("").ahead(0, 1), -1);

        edge.sentence(23, "-2.");
        ReplayBox fresh = Programs.box("SET 0 1; SET 0 1");
        edge.all("ahead(#, 2)", -2, s -> fresh.ahead(s, 2), LEAST, 0, 1, 2, LARGEST);
    }

    private void race() {
        edge.sentence(24, "RACES, by the later step, then the other one: what 0 how many, 1 the earlier, 2 the later step of RACE i, from 0, 3 the PLACE.");
        ReplayBox box = Programs.box("START 1; START 2; PUT 0 0; PUT 11 0; PUT 0 0", "PUT 0 0; PUT 11 0", "PUT 0 0");
        box.turn(0, 3);
        box.turn(1, 1);
        box.turn(0, 2);
        box.turn(2, 1);
        box.run();
        // CELL 0: step 3 of THREAD 0, 4 of 1, 6 of 0, 7 of 2; CELL 11: step 5 of 0, 8 of 1.
        int[][] want = {{3, 4, 0}, {4, 6, 0}, {3, 7, 0}, {4, 7, 0}, {6, 7, 0}, {5, 8, 11}};
        edge.all("race(#, 0)", want.length, i -> box.race(i, 0), LEAST, -1, 0, 6, LARGEST);
        for (int i = 0; i < want.length; i++) {
            for (int what = 1; what <= 3; what++) {
                edge.is("race(" + i + ", " + what + ")", box.race(i, what), want[i][what - 1]);
            }
        }
        edge.is("none", Programs.ran("PUT 0 0; PUT 0 0").race(0, 0), 0);
        edge.is("none of no steps", Programs.ran("").race(0, 0), 0);
        box.freely();
        box.clear(1);
        box.run();
        edge.is("of the latest run", box.race(0, 0), 2);

        edge.sentence(24, "-1: what, or none such;");
        edge.all("race(0, #)", -1, what -> box.race(0, what), LEAST, -1, 4, LARGEST);
        for (int what = 1; what <= 3; what++) {
            int w = what;
            edge.all("race(#, " + w + ") of 2", -1, i -> box.race(i, w), LEAST, -1, 2, LARGEST);
            edge.is("race(0, " + w + ") of none", Programs.ran("PUT 0 0").race(0, w), -1);
        }
        edge.is("race(1, 1)", box.race(1, 1), 5);

        edge.sentence(24, "-2: there was no run.");
        ReplayBox fresh = Programs.box("PUT 0 0");
        edge.all("race(#, 0)", -2, i -> fresh.race(i, 0), LEAST, -1, 0, LARGEST);
        edge.all("race(0, #)", -2, what -> fresh.race(0, what), LEAST, -1, 0, 3, 4, LARGEST);
    }

    private void differ() {
        edge.sentence(25, "How many CELLS, LOCALS of THREADS, and next INSTRUCTIONS of THREADS are other behind step s than behind step t.");
        ReplayBox box = Programs.ran("SET 0 1; SET 3 2; PUT 0 0; PUT 11 3; START 3; SET 0 0; SET 3 0", "", "",
                "SET 3 1; GO 0");
        edge.is("a LOCAL, and the next INSTRUCTION", box.differ(0, 1), 2);
        edge.is("the same back", box.differ(1, 0), 2);
        edge.is("CELL 0, and the next INSTRUCTION", box.differ(2, 3), 2);
        edge.is("CELL 11, and the next INSTRUCTION", box.differ(3, 4), 2);
        edge.is("the next INSTRUCTION alone", box.differ(4, 5), 1);
        edge.is("LOCALS that are again what they were", box.differ(0, 7), 3);
        edge.is("LOCAL 3 of THREAD 3", box.differ(7, 8), 2);
        edge.is("the next INSTRUCTION of THREAD 3 alone", box.differ(8, 9), 1);
        edge.is("where all is again as it was", box.differ(8, 10), 0);
        edge.all("differ(#, #)", 0, s -> box.differ(s, s), 0, 1, 300);
        edge.is("two CELLS, a LOCAL, the next INSTRUCTIONS of two", box.differ(0, 300), 5);
        String locals = "SET 0 1; SET 1 1; SET 2 1; SET 3 1";
        StringBuilder puts = new StringBuilder("START 1; START 2; START 3; " + locals);
        for (int cell = 0; cell <= 11; cell++) {
            puts.append("; PUT ").append(cell).append(" 0");
        }
        ReplayBox most = Programs.ran(puts.toString(), locals, locals, locals);
        edge.is("all of them", most.differ(0, most.told(1)), 12 + 16 + 4);
        edge.is("ENDED is another than a next INSTRUCTION", Programs.ran("GO -1").differ(0, 1), 1);

        edge.sentence(25, "(THINGS are the same if their numbers are.)");
        ReplayBox things = Programs.ran("LOCK 0; LOCK 0; SET 2 2; ROW 1 2; PUT 0 1; SET 2 1; WRITE 1 2 2; "
                + "TAKE 0; PUT 0 0");
        edge.is("NUMBER 0 and THING 0", things.differ(0, 1), 2);
        edge.is("THING 0 and THING 1", things.differ(1, 2), 2);
        edge.is("a ROW that is written", things.differ(6, 7), 1);
        edge.is("a LOCK that is taken", things.differ(7, 8), 1);
        edge.is("a CELL with THING 2 and THING 1", things.differ(8, 9), 2);
        edge.is("a THREAD that falls ASLEEP", Programs.ran("LOCK 0 1; TAKE 0; WAIT 0").differ(2, 3), 0);

        edge.sentence(25, "-1: no such steps (0 ..);");
        edge.all("differ(#, 0)", -1, s -> things.differ(s, 0), LEAST, -1, 10, LARGEST);
        edge.all("differ(0, #)", -1, t -> things.differ(0, t), LEAST, -1, 10, LARGEST);
        edge.is("differ(0, 9)", things.differ(0, 9), 5);
        edge.is("differ(300, 301) of 300", box.differ(300, 301), -1);
        edge.is("differ(0, 0) of none", Programs.ran("").differ(0, 0), 0);

        edge.sentence(25, "-2.");
        ReplayBox fresh = Programs.box("SET 0 1");
        edge.all("differ(#, 0)", -2, s -> fresh.differ(s, 0), LEAST, -1, 0, 1, LARGEST);
    }
}
