import java.util.List;

/** Programs written as text: instructions parted by ';', each an OP's name and up to three numbers. */
final class Programs {
    static final List<String> OPS = List.of("SET", "GET", "PUT", "ADD", "LESS", "TIMES", "GO", "UNLESS", "ROW", "READ",
            "WRITE", "LOCK", "TAKE", "LEAVE", "WAIT", "WORD", "INPUT", "START", "FAIL", "END");

    private Programs() {
    }

    /** A new box whose THREADS have these INSTRUCTIONS. */
    static ReplayBox box(String... threads) {
        ReplayBox box = new ReplayBox();
        for (int thread = 0; thread < threads.length; thread++) {
            add(box, thread, threads[thread]);
        }
        return box;
    }

    static void add(ReplayBox box, int thread, String text) {
        for (String line : text.split(";")) {
            if (line.isBlank()) {
                continue;
            }
            String[] words = line.trim().split(" +");
            int[] numbers = new int[3];
            for (int k = 1; k < words.length; k++) {
                numbers[k - 1] = Integer.parseInt(words[k]);
            }
            if (box.code(thread, OPS.indexOf(words[0]), numbers[0], numbers[1], numbers[2]) < 0) {
                throw new IllegalStateException("the test's own program was refused: " + line);
            }
        }
    }

    /** A box that has run once. */
    static ReplayBox ran(String... threads) {
        ReplayBox box = box(threads);
        box.run();
        return box;
    }

    /** The NUMBER, or the THING's number, that a CELL holds in THE VIEW. */
    static int cell(ReplayBox box, int cell) {
        return box.value(-1, cell, 1);
    }

    static int[] stepThreads(ReplayBox box) {
        int[] threads = new int[box.told(1)];
        for (int s = 1; s <= threads.length; s++) {
            threads[s - 1] = box.step(s, 0);
        }
        return threads;
    }
}
