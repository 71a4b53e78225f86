import java.util.ArrayList;
import java.util.List;

/** A ReplayBox and a PlainBox to which the same calls are made, and the row of numbers that the calls are chosen by. */
final class Twins {
    final ReplayBox box = new ReplayBox();
    final PlainBox plain = new PlainBox();
    final List<String> history = new ArrayList<>();
    private final Due due;
    private final int number;
    private long state;
    boolean wrong;

    /** Twins of the same number are always given the same row. */
    Twins(Due due, int number) {
        this.due = due;
        this.number = number;
        this.state = 88172645463325252L + 7919L * number;
    }

    int random(int below) {
        state ^= state << 13;
        state ^= state >>> 7;
        state ^= state << 17;
        return (int) Long.remainderUnsigned(state, below);
    }

    /** Mostly a number from least to most, sometimes just beyond, seldom far beyond. */
    int about(int least, int most) {
        int kind = random(40);
        if (kind == 0) {
            return least - 1 - random(3);
        }
        if (kind == 1) {
            return most + 1 + random(3);
        }
        if (kind == 2) {
            return new int[] {Integer.MIN_VALUE, Integer.MAX_VALUE, -2, 0}[random(4)];
        }
        return most < least ? least : least + random(most - least + 1);
    }

    void check(String call, Due.Call got, Due.Call want) {
        history.add(call);
        String answer = Due.outcome(got);
        String wanted = Due.outcome(want);
        if (!answer.equals(wanted) && !wrong) {
            wrong = true;
            System.out.println("box " + number + ": " + String.join("; ", history));
        }
        due.isText("box " + number + ": " + call, answer, wanted);
    }

    void code(int thread, int op, int a, int b, int c) {
        check("code(" + thread + ", " + op + ", " + a + ", " + b + ", " + c + ")", () -> box.code(thread, op, a, b, c),
                () -> plain.code(thread, op, a, b, c));
    }

    void turn(int thread, int steps) {
        check("turn(" + thread + ", " + steps + ")", () -> box.turn(thread, steps), () -> plain.turn(thread, steps));
    }

    void run() {
        check("run()", box::run, plain::run);
    }
}
