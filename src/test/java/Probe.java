import java.util.ArrayList;
import java.util.List;
import java.util.function.Supplier;

/**
 * Answers of a box to some hundred calls of every kind, as rows of text, by which two boxes can be compared; of long
 * runs the first steps alone. What can't be asked (INSTRUCTIONS, INPUTS, TURNS) is seen by what the next run and the
 * next calls do, so a probed box is used up; each part has a new one, which keeps it below 512 calls.
 */
final class Probe {
    private static final int MOST_STEPS = 30;

    private final ReplayBox box;
    private final List<String> rows = new ArrayList<>();

    private Probe(ReplayBox box) {
        this.box = box;
    }

    static List<String> all(Supplier<ReplayBox> made) {
        List<String> rows = new ArrayList<>();
        for (int part = 0; part < 5; part++) {
            Probe probe = new Probe(made.get());
            switch (part) {
                case 0 -> probe.askOfRun();
                case 1 -> probe.askOfView();
                case 2 -> probe.askOfHistory();
                case 3 -> probe.askOfShelves();
                default -> probe.goOn();
            }
            rows.addAll(probe.rows);
        }
        return rows;
    }

    private void ask(String call, Due.Call made) {
        rows.add(call + " = " + Due.outcome(made));
    }

    private int steps() {
        return Math.max(0, box.told(1));
    }

    private void askOfRun() {
        for (int what = 0; what <= 7; what++) {
            int w = what;
            ask("told(" + w + ")", () -> box.told(w));
        }
        ask("ended()", box::ended);
        for (int what = 0; what <= 6; what++) {
            int w = what;
            ask("found(" + w + ")", () -> box.found(w));
        }
        for (int i = 0; i < Math.min(box.told(5), 12); i++) {
            int k = i;
            ask("change(" + k + ", 0)", () -> box.change(k, 0));
            ask("change(" + k + ", 1)", () -> box.change(k, 1));
        }
        for (int s = 1; s <= Math.min(steps(), MOST_STEPS); s++) {
            for (int what = 0; what <= 5; what++) {
                int k = s;
                int w = what;
                ask("step(" + k + ", " + w + ")", () -> box.step(k, w));
            }
        }
    }

    private void askOfView() {
        ask("back(0)", () -> box.back(0));
        askOfMoment();
        int view = Math.max(0, box.back(0));
        box.to(view / 2);
        askOfMoment();
    }

    private void askOfMoment() {
        for (int thread = -1; thread <= 3; thread++) {
            for (int k = 0; k < (thread == -1 ? 12 : 4); k++) {
                int t = thread;
                int l = k;
                ask("value(" + t + ", " + l + ", 0)", () -> box.value(t, l, 0));
                ask("value(" + t + ", " + l + ", 1)", () -> box.value(t, l, 1));
            }
        }
        for (int x = 0; x < Math.min(box.told(4), 4); x++) {
            int k = x;
            ask("thing(" + k + ", 0)", () -> box.thing(k, 0));
            ask("thing(" + k + ", 1)", () -> box.thing(k, 1));
            for (int i = 0; i < 3; i++) {
                int p = i;
                ask("place(" + k + ", " + p + ")", () -> box.place(k, p));
            }
        }
        for (int thread = 0; thread <= 3; thread++) {
            int t = thread;
            ask("thread(" + t + ", 0)", () -> box.thread(t, 0));
            ask("thread(" + t + ", 1)", () -> box.thread(t, 1));
        }
    }

    private void askOfHistory() {
        int steps = steps();
        for (int place : new int[] {0, 5, 6, 121}) {
            for (int s = 0; s <= Math.min(steps, MOST_STEPS); s += 5) {
                int k = s;
                ask("last(" + place + ", " + k + ")", () -> box.last(place, k));
                ask("next(" + place + ", " + k + ")", () -> box.next(place, k));
            }
        }
        for (int cell = 0; cell < 12; cell++) {
            int c = cell;
            ask("when(" + c + ", 0, 0, 0)", () -> box.when(c, 0, 0, 0));
            ask("when(" + c + ", 0, 0, 2)", () -> box.when(c, 0, 0, 2));
            ask("when(" + c + ", 1, 0, 1)", () -> box.when(c, 1, 0, 1));
        }
        for (int s = 1; s < Math.min(steps, MOST_STEPS); s += 3) {
            for (int t = s + 1; t <= Math.min(steps, MOST_STEPS); t += 4) {
                int k = s;
                int l = t;
                ask("ahead(" + k + ", " + l + ")", () -> box.ahead(k, l));
            }
            int k = s;
            ask("differ(0, " + k + ")", () -> box.differ(0, k));
        }
        ask("race(0, 0)", () -> box.race(0, 0));
        for (int i = 0; i < Math.min(box.race(0, 0), 5); i++) {
            int k = i;
            ask("race(" + k + ", 1)", () -> box.race(k, 1));
            ask("race(" + k + ", 2)", () -> box.race(k, 2));
            ask("race(" + k + ", 3)", () -> box.race(k, 3));
        }
    }

    private void askOfShelves() {
        for (int shelf = 0; shelf <= 7; shelf++) {
            int d = shelf;
            ask("weight(" + d + ")", () -> box.weight(d));
            ask("toss(" + d + ")", () -> box.toss(d));
            for (int i = 0; i <= 13; i++) {
                int k = i;
                ask("element(" + d + ", " + k + ")", () -> box.element(d, k));
            }
            ask("element(" + d + ", 59)", () -> box.element(d, 59));
        }
    }

    /** What the program is now: how it runs, and how much of everything there is. */
    private void goOn() {
        ask("play(all)", () -> box.play(box.told(5), box.told(6)));
        ask("ended()", box::ended);
        ask("find(1, 20)", () -> box.find(1, 20));
        ask("found(5)", () -> box.found(5));
        ask("run()", box::run);
        for (int what = 1; what <= 7; what++) {
            int w = what;
            ask("told(" + w + ") of the next run", () -> box.told(w));
        }
        for (int s = 1; s <= Math.min(steps(), MOST_STEPS); s++) {
            int k = s;
            ask("step(" + k + ", 0) of the next run", () -> box.step(k, 0));
            ask("step(" + k + ", 2) of the next run", () -> box.step(k, 2));
        }
        for (int cell = 0; cell < 12; cell++) {
            int c = cell;
            ask("CELL " + c + " of the next run", () -> box.value(-1, c, 1));
            ask("CELL " + c + " at its first", () -> box.to(0) + box.value(-1, c, 1));
            box.to(steps());
        }
        ask("input(1)", () -> box.input(1));
        ask("turn(0, 1)", () -> box.turn(0, 1));
        ask("freely()", box::freely);
        ask("run() without TURNS", box::run);
        for (int thread = 0; thread <= 3; thread++) {
            int t = thread;
            ask("code(" + t + ", 0, 0, 0, 0)", () -> box.code(t, 0, 0, 0, 0));
            ask("clear(" + t + ")", () -> box.clear(t));
        }
    }
}
