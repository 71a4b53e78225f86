import java.util.ArrayList;
import java.util.List;
import java.util.function.Supplier;
import java.util.function.ToIntFunction;

/**
 * The Terms' sentences on refusals. Each refused call is made on a new box, and then what the box answers to a Probe
 * must be what one answers that was made likewise, but without that call.
 */
final class EdgesOfRefusals {
    private static final int LEAST = Edges.LEAST;
    private static final int LARGEST = Edges.LARGEST;
    private static final int TERMS = Edges.TERMS;
    private static final String ARGUMENT = "IllegalArgumentException";
    private static final String STATE = "IllegalStateException";

    /** A call that is refused, with what it answers. */
    private record Refused(String call, String want, ToIntFunction<ReplayBox> made) {
    }

    private final Edges edge;
    private List<Refused> calls = new ArrayList<>();

    private EdgesOfRefusals(Edges edge) {
        this.edge = edge;
    }

    static void look(Edges edge) {
        EdgesOfRefusals edges = new EdgesOfRefusals(edge);
        edges.withoutRun();
        edges.wrongNumbers();
        edges.asTold();
        edges.nothingChanges();
    }

    private void no(int want, String call, ToIntFunction<ReplayBox> made) {
        calls.add(new Refused(call, Integer.toString(want), made));
    }

    private void no(String want, String call, ToIntFunction<ReplayBox> made) {
        calls.add(new Refused(call, want, made));
    }

    private List<Refused> taken() {
        List<Refused> all = calls;
        calls = new ArrayList<>();
        return all;
    }

    private void answers(Supplier<ReplayBox> state, List<Refused> refused) {
        for (Refused each : refused) {
            edge.text(each.call(), Due.outcome(() -> each.made().applyAsInt(state.get())), each.want());
        }
    }

    private void changesNothing(String name, Supplier<ReplayBox> state, List<Refused> refused) {
        List<String> want = Probe.all(state);
        for (Refused each : refused) {
            List<String> got = Probe.all(() -> {
                ReplayBox box = state.get();
                edge.text(name + ": " + each.call(), Due.outcome(() -> each.made().applyAsInt(box)), each.want());
                return box;
            });
            edge.is(name + ": answers behind " + each.call(), got.size(), want.size());
            for (int k = 0; k < Math.min(got.size(), want.size()); k++) {
                edge.text(name + ": behind " + each.call(), got.get(k), want.get(k));
            }
        }
    }

    // Its run has THINGS of all KINDS, four CHANGES, two of three INPUTS, and RACES; find() FINDS another one.
    private static ReplayBox told() {
        ReplayBox box = Programs.box(
                "LOCK 0 1; SET 1 2; ROW 2 1; PUT 0 0; PUT 1 2; LOCK 3; START 1; START 2; INPUT 1; PUT 5 1; "
                        + "SET 1 0; PUT 5 1; TAKE 0; LEAVE 0",
                "GET 0 1; SET 1 1; WRITE 0 1 1; GET 2 6; PUT 6 1; INPUT 3",
                "GET 0 5; UNLESS 0 3; FAIL 0 6; GET 1 0; TAKE 1; LEAVE 1");
        box.input(1);
        box.input(2);
        box.input(3);
        box.cell(6, 4);
        box.turn(0, 8);
        box.turn(1, 2);
        box.turn(0, 4);
        box.make(3, 2, 13);
        box.make(4, 3, 60);
        box.find(1, 100);
        return box;
    }

    private static ReplayBox ran() {
        ReplayBox box = told();
        box.run();
        box.keep(0, 1, 0);
        box.keep(1, 1, 1);
        box.keep(2, 1, 2);
        box.keep(3, 2, 0);
        box.keep(4, 3, 0);
        box.make(5, 2, 4);
        box.copy(3, 8, 5, 1, 3);
        box.make(6, 3, 3);
        box.copy(4, 5, 6, 0, 2);
        box.play(1, 1);
        box.to(12);
        return box;
    }

    private static ReplayBox full() {
        ReplayBox box = Programs.box(
                "LOCK 0; ".repeat(11) + "LOCK 1 1; START 1; START 2; START 3; GO 16; INPUT 0; PUT 5 0; GO 16"
                        + "; SET 0 1".repeat(5),
                "SET 0 1; PUT 6 0; " + "SET 1 2; ".repeat(22), "GET 0 6; " + "SET 1 2; ".repeat(23),
                "SET 1 2; ".repeat(24));
        for (int k = 0; k < 30; k++) {
            box.input(k);
        }
        for (int k = 0; k < 40; k++) {
            box.turn(k % 4, 5);
        }
        for (int cell = 0; cell < 12; cell++) {
            box.cell(cell, cell - 5);
        }
        box.run();
        box.keep(7, 1, 11);
        box.make(0, 2, 60);
        return box;
    }

    // Each with numbers that are right, and with ones that are wrong.
    private void callsWithoutRun() {
        for (int n : new int[] {LEAST, -1, 0, 1, 300, LARGEST}) {
            no(-2, "promise 9, told(" + n + ")", box -> box.told(n));
            no(-2, "promise 12, play(" + n + ", 0)", box -> box.play(n, 0));
            no(-2, "promise 12, play(0, " + n + ")", box -> box.play(0, n));
            no(-2, "promise 14, to(" + n + ")", box -> box.to(n));
            no(-2, "promise 15, back(" + n + ")", box -> box.back(n));
            no(STATE, "promise 16, value(" + n + ", 0, 0)", box -> box.value(n, 0, 0));
            no(STATE, "promise 16, value(0, 0, " + n + ")", box -> box.value(0, 0, n));
            no(-2, "promise 17, thing(" + n + ", 0)", box -> box.thing(n, 0));
            no(-2, "promise 17, thing(0, " + n + ")", box -> box.thing(0, n));
            no(STATE, "promise 18, place(" + n + ", " + n + ")", box -> box.place(n, n));
            no(-2, "promise 19, thread(" + n + ", 0)", box -> box.thread(n, 0));
            no(-2, "promise 19, thread(0, " + n + ")", box -> box.thread(0, n));
            no(-2, "promise 20, last(0, " + n + ")", box -> box.last(0, n));
            no(-2, "promise 21, next(0, " + n + ")", box -> box.next(0, n));
            no(-2, "promise 22, when(" + n + ", 0, 0, 0)", box -> box.when(n, 0, 0, 0));
            no(-2, "promise 22, when(0, 0, " + n + ", 1)", box -> box.when(0, 0, n, 1));
            no(-2, "promise 22, when(0, 0, 0, " + n + ")", box -> box.when(0, 0, 0, n));
            no(-2, "promise 23, ahead(" + n + ", 2)", box -> box.ahead(n, 2));
            no(-2, "promise 24, race(0, " + n + ")", box -> box.race(0, n));
            no(-2, "promise 25, differ(" + n + ", 0)", box -> box.differ(n, 0));
        }
        no(-2, "promise 13, ended()", ReplayBox::ended);
    }

    private void withoutRun() {
        edge.sentence(TERMS, "Answers of several refusals are the first one here: -2 (or IllegalStateException) where there was no run, in calls whose lines tell that;");
        callsWithoutRun();
        answers(EdgesOfRefusals::told, taken());
        edge.is("change's line doesn't: -1", told().change(0, 0), -1);
        edge.is("step's line doesn't: -1", told().step(1, 0), -1);
        edge.is("keep's line doesn't: -1", told().keep(0, 0, 0), -1);
        edge.is("find needs none", told().find(0, 1), 0);
        edge.is("make needs none", told().make(0, 2, 1), 0);
        edge.is("element needs none", told().element(3, 12), 0);
        edge.is("weight needs none", told().weight(3), -12);
        edge.is("toss needs none", told().toss(0), -11);
        edge.is("copy needs none", told().copy(3, 0, 3, 1, 12), 12);
    }

    private void wrongNumbers() {
        edge.sentence(TERMS, "-1 no such thing, a number out of range, or not as told;");
        no(-1, "no OP, of a THREAD that has 24", box -> box.code(0, 20, 0, 0, 0));
        no(-1, "no THREAD, where there are 40 TURNS", box -> box.turn(4, 1));
        no(-1, "no steps, where there are 40 TURNS", box -> box.turn(0, 0));
        no(-1, "no SHELF, and a size below 0", box -> box.make(8, 2, -1));
        no(-1, "no what, and a size below 0", box -> box.make(0, 4, -1));
        no(-1, "no SHELF, and nothing is held", box -> box.copy(1, 0, 8, 0, 1));
        no(-1, "no SHELF, and another kind", box -> box.copy(7, 0, -1, 0, 1));
        no(-1, "no SHELF, and a place that it doesn't have", box -> box.copy(0, -1, 8, 61, 1));
        no(ARGUMENT, "no SHELF, and no place", box -> box.element(8, -1));
        answers(EdgesOfRefusals::full, taken());
        ReplayBox box = ran();
        edge.is("found(7), where there is a second CHANGE or not", box.found(7), -1);
        edge.is("found(-1)", box.found(-1), -1);
    }

    private void asTold() {
        edge.sentence(TERMS, "-2, -11 to -15 as told.");
        no(-2, "a 25th INSTRUCTION", box -> box.code(0, 0, 0, 0, 0));
        no(-2, "a 31st INPUT", box -> box.input(0));
        no(-2, "a 41st TURN", box -> box.turn(0, 1));
        no(-11, "nothing is held, and another kind", box -> box.copy(7, 0, 1, 0, 1));
        no(-11, "nothing is held, and a place that it doesn't have", box -> box.copy(0, -1, 1, 0, 1));
        no(-12, "another kind, and a place that it doesn't have", box -> box.copy(0, -1, 7, 0, 1));
        no(-13, "a place that it doesn't have", box -> box.copy(0, 60, 0, 0, 1));
        no(-14, "a size below 0", box -> box.make(0, 3, -1));
        answers(EdgesOfRefusals::full, taken());
        edge.is("a FAILURE that is none", ran().toss(1), -15);
    }

    private void nothingChanges() {
        edge.sentence(TERMS, "A refused call changes nothing.");
        edge.is("ran() has CHANGES", ran().told(5), 4);
        edge.is("ran() has INPUTS", ran().told(6), 2);
        edge.is("ran() has THINGS", ran().told(4), 3);
        edge.is("ran() has RACES", ran().race(0, 0) > 0 ? 1 : 0, 1);
        edge.is("ran() has FOUND", ran().found(0), 1);
        edge.is("full() has all INPUTS taken", full().told(6), 30);
        callsWithoutRun();
        callsOfTheProgram();
        callsOfShelves();
        no(-1, "promise 28, keep(3, 0, 0)", box -> box.keep(3, 0, 0));
        no(-1, "promise 10, change(0, 0)", box -> box.change(0, 0));
        no(-1, "promise 11, step(1, 0)", box -> box.step(1, 0));
        changesNothing("without a run", EdgesOfRefusals::told, taken());
        callsOfTheProgram();
        callsOfTheRun();
        callsOfTheView();
        callsOfHistory();
        callsOfShelves();
        callsOfFilledShelves();
        changesNothing("behind a run", EdgesOfRefusals::ran, taken());
        no(-2, "promise 2, code(0, 0, ..)", box -> box.code(0, 0, 9, 9, 9));
        no(-2, "promise 2, code(3, 19, ..)", box -> box.code(3, 19, 9, 9, 9));
        no(-2, "promise 5, input(9)", box -> box.input(9));
        no(-2, "promise 6, turn(2, 100)", box -> box.turn(2, 100));
        callsOfTheProgram();
        changesNothing("where all is full", EdgesOfRefusals::full, taken());
    }

    private void callsOfTheProgram() {
        for (int n : new int[] {LEAST, -1, 4, LARGEST}) {
            no(-1, "promise 2, code(" + n + ", ..)", box -> box.code(n, 0, 1, 1, 1));
            no(-1, "promise 3, clear(" + n + ")", box -> box.clear(n));
            no(-1, "promise 6, turn(" + n + ", 1)", box -> box.turn(n, 1));
        }
        for (int n : new int[] {-1, 20}) {
            no(-1, "promise 2, code(0, " + n + ", ..)", box -> box.code(0, n, 1, 1, 1));
        }
        for (int n : new int[] {-1, 12}) {
            no(-1, "promise 4, cell(" + n + ", 7)", box -> box.cell(n, 7));
        }
        for (int n : new int[] {LEAST, 0, 101}) {
            no(-1, "promise 6, turn(0, " + n + ")", box -> box.turn(0, n));
            no(-1, "promise 26, find(1, " + n + ")", box -> box.find(1, n));
        }
        for (int n : new int[] {-1, 3, LARGEST}) {
            no(-1, "promise 26, find(" + n + ", 9)", box -> box.find(n, 9));
        }
        no(-1, "promise 27, found(-1)", box -> box.found(-1));
        no(-1, "promise 27, found(7)", box -> box.found(7));
    }

    private void callsOfTheRun() {
        for (int n : new int[] {LEAST, -1, 8, LARGEST}) {
            no(-1, "promise 9, told(" + n + ")", box -> box.told(n));
            no(-1, "promise 10, change(" + n + ", 0)", box -> box.change(n, 0));
            no(-1, "promise 10, change(0, " + n + ")", box -> box.change(0, n));
            no(-1, "promise 11, step(1, " + n + ")", box -> box.step(1, n));
            no(-1, "promise 12, play(" + n + ", 0)", box -> box.play(n, 0));
            no(-1, "promise 12, play(0, " + n + ")", box -> box.play(0, n));
        }
        no(-1, "promise 11, step(0, 0)", box -> box.step(0, 0));
        no(-1, "promise 11, step(behind the last, 0)", box -> box.step(box.told(1) + 1, 0));
        no(-1, "promise 12, play(one too many, 0)", box -> box.play(box.told(5) + 1, 0));
        no(-1, "promise 12, play(0, one too many)", box -> box.play(0, box.told(6) + 1));
        no(-2, "promise 27, found(3)", box -> box.found(3));
        no(-2, "promise 27, found(4)", box -> box.found(4));
    }

    private void callsOfTheView() {
        for (int n : new int[] {LEAST, -1, 301, LARGEST}) {
            no(-1, "promise 14, to(" + n + ")", box -> box.to(n));
            no(-1, "promise 15, back(" + n + ")", box -> box.back(n));
            no(ARGUMENT, "promise 16, value(-1, " + n + ", 0)", box -> box.value(-1, n, 0));
            no(ARGUMENT, "promise 16, value(0, " + n + ", 0)", box -> box.value(0, n, 0));
            no(ARGUMENT, "promise 16, value(0, 0, " + n + ")", box -> box.value(0, 0, n));
            no(-1, "promise 17, thing(" + n + ", 0)", box -> box.thing(n, 0));
            no(-1, "promise 17, thing(0, " + n + ")", box -> box.thing(0, n));
            no(ARGUMENT, "promise 18, place(" + n + ", 0)", box -> box.place(n, 0));
            no(ARGUMENT, "promise 18, place(1, " + n + ")", box -> box.place(1, n));
            no(-1, "promise 19, thread(" + n + ", 0)", box -> box.thread(n, 0));
            no(-1, "promise 19, thread(0, " + n + ")", box -> box.thread(0, n));
        }
        no(-1, "promise 14, to(behind the last)", box -> box.to(box.told(1) + 1));
        no(-1, "promise 15, back(13) behind step 12", box -> box.back(13));
        no(ARGUMENT, "promise 16, value(-2, 0, 0)", box -> box.value(-2, 0, 0));
        no(ARGUMENT, "promise 16, value(4, 0, 0)", box -> box.value(4, 0, 0));
        no(ARGUMENT, "promise 18, place(1, 2) of a ROW of 2", box -> box.place(1, 2));
        no(ARGUMENT, "promise 18, place(0, 0) of a GATE", box -> box.place(0, 0));
    }

    private void callsOfHistory() {
        for (int n : new int[] {LEAST, -1, 301, LARGEST}) {
            no(-1, "promise 20, last(0, " + n + ")", box -> box.last(0, n));
            no(-1, "promise 21, next(0, " + n + ")", box -> box.next(0, n));
            no(-1, "promise 22, when(" + n + ", 0, 0, 0)", box -> box.when(n, 0, 0, 0));
            no(-1, "promise 22, when(0, 0, " + n + ", 1)", box -> box.when(0, 0, n, 1));
            no(-1, "promise 22, when(0, 0, 0, " + n + ")", box -> box.when(0, 0, 0, n));
            no(-1, "promise 23, ahead(" + n + ", 2)", box -> box.ahead(n, 2));
            no(-1, "promise 23, ahead(1, " + n + ")", box -> box.ahead(1, n));
            no(-1, "promise 24, race(" + n + ", 1)", box -> box.race(n, 1));
            no(-1, "promise 24, race(0, " + n + ")", box -> box.race(0, n));
            no(-1, "promise 25, differ(" + n + ", 0)", box -> box.differ(n, 0));
            no(-1, "promise 25, differ(0, " + n + ")", box -> box.differ(0, n));
        }
        no(-1, "promise 23, ahead(2, 2)", box -> box.ahead(2, 2));
    }

    // SHELF 3 has a ROW of 13 bytes or more, SHELF 4 one of 12 ints or more, SHELF 7 nothing.
    private void callsOfShelves() {
        for (int n : new int[] {LEAST, -1, 8, LARGEST}) {
            no(-1, "promise 28, keep(" + n + ", 2, 0)", box -> box.keep(n, 2, 0));
            no(-1, "promise 28, keep(3, " + n + ", 0)", box -> box.keep(3, n, 0));
            no(-1, "promise 28, keep(3, 1, " + n + ")", box -> box.keep(3, 1, n));
            no(-1, "promise 29, make(" + n + ", 2, 5)", box -> box.make(n, 2, 5));
            no(-1, "promise 29, make(3, " + n + ", 5)", box -> box.make(3, n, 5));
            no(ARGUMENT, "promise 30, element(" + n + ", 0)", box -> box.element(n, 0));
            no(-1, "promise 31, copy(" + n + ", 0, 3, 1, 1)", box -> box.copy(n, 0, 3, 1, 1));
            no(-1, "promise 31, copy(3, 0, " + n + ", 1, 1)", box -> box.copy(3, 0, n, 1, 1));
            no(-1, "promise 32, weight(" + n + ")", box -> box.weight(n));
            no(-1, "promise 33, toss(" + n + ")", box -> box.toss(n));
        }
        no(-1, "promise 29, make(3, 2, 61)", box -> box.make(3, 2, 61));
        no(-1, "promise 29, make(4, 3, 61)", box -> box.make(4, 3, 61));
        no(-14, "promise 29, make(3, 2, -1)", box -> box.make(3, 2, -1));
        no(-14, "promise 29, make(4, 3, LEAST)", box -> box.make(4, 3, LEAST));
        no(STATE, "promise 30, element(7, 0)", box -> box.element(7, 0));
        no(STATE, "promise 30, element(3, -1)", box -> box.element(3, -1));
        no(STATE, "promise 30, element(3, 60)", box -> box.element(3, 60));
        no(-11, "promise 31, copy(7, 0, 3, 0, 1)", box -> box.copy(7, 0, 3, 0, 1));
        no(-11, "promise 31, copy(3, 0, 7, 0, 1)", box -> box.copy(3, 0, 7, 0, 1));
        no(-12, "promise 31, copy(3, 0, 4, 0, 1)", box -> box.copy(3, 0, 4, 0, 1));
        no(-12, "promise 31, copy(4, 0, 3, 0, 1)", box -> box.copy(4, 0, 3, 0, 1));
        no(-13, "promise 31, copy(3, -1, 3, 0, 9)", box -> box.copy(3, -1, 3, 0, 9));
        no(-13, "promise 31, copy(3, 8, 3, -1, 3)", box -> box.copy(3, 8, 3, -1, 3));
        no(-13, "promise 31, copy(4, 5, 4, 0, 60)", box -> box.copy(4, 5, 4, 0, 60));
        no(-11, "promise 32, weight(7)", box -> box.weight(7));
        no(-12, "promise 32, weight(3)", box -> box.weight(3));
        no(-11, "promise 33, toss(7)", box -> box.toss(7));
        no(-12, "promise 33, toss(4)", box -> box.toss(4));
    }

    // SHELVES 0, 1, 2: THINGS; 5: four bytes; 6: three ints.
    private void callsOfFilledShelves() {
        no(-1, "promise 28, keep(0, 1, one too many)", box -> box.keep(0, 1, box.told(4)));
        no(STATE, "promise 30, element(1, 0)", box -> box.element(1, 0));
        no(-12, "promise 31, copy(1, 0, 3, 0, 1)", box -> box.copy(1, 0, 3, 0, 1));
        no(-12, "promise 31, copy(4, 0, 2, 0, 1)", box -> box.copy(4, 0, 2, 0, 1));
        no(-13, "promise 31, copy(3, 0, 5, 2, 3)", box -> box.copy(3, 0, 5, 2, 3));
        no(-13, "promise 31, copy(5, 2, 3, 0, 3)", box -> box.copy(5, 2, 3, 0, 3));
        no(-13, "promise 31, copy(6, 1, 4, 5, LARGEST)", box -> box.copy(6, 1, 4, 5, LARGEST));
        no(-15, "promise 33, toss(1)", box -> box.toss(1));
    }
}
