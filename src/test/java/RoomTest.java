import com.sun.management.ThreadMXBean;
import java.lang.management.ManagementFactory;

/** One box and its 512 dearest calls stay far below the room that there is, and end soon. */
public final class RoomTest {
    private static final int CALLS = 512;
    // Of 7.3 million fields and elements, were each of them eight bytes; a small part of it is plenty.
    private static final long MOST_BYTES = 7_300_000L * 8 / 20;
    private static final Due due = new Due();

    public static void main(String[] args) {
        // The first round loads classes, which is not the box's own room.
        measure();
        long[] bytes = measure();
        String[] names = {"the constructor", "run()", "find(2, 100)", "play(0, 0)", "back and forth", "race()", "keep()",
            "refused value()"};
        for (int k = 0; k < names.length; k++) {
            System.out.println(names[k] + ": " + bytes[k] + " bytes");
            due.is(names[k] + " stays below " + MOST_BYTES, bytes[k] <= MOST_BYTES ? 1 : 0, 1);
        }
        due.close();
    }

    private static ReplayBox longest() {
        return Programs.box("START 1; START 2; START 3; PUT 0 0; GET 0 0; GO 3", "PUT 0 0; GET 0 0; GO 0",
                "PUT 0 0; GET 0 0; GO 0", "PUT 0 0; GET 0 0; GO 0");
    }

    private static long[] measure() {
        ReplayBox box = longest();
        for (int k = 0; k < 40; k++) {
            box.turn(k % 4, 7);
        }
        long[] bytes = new long[8];
        bytes[0] = allocated(ReplayBox::new, 1);
        bytes[1] = allocated(box::run, CALLS);
        bytes[2] = allocated(() -> box.find(2, 100), CALLS);
        bytes[3] = allocated(() -> box.play(0, 0), CALLS);
        bytes[4] = allocated(() -> {
            box.to(300);
            box.value(-1, 0, 1);
            box.to(0);
            box.value(-1, 0, 1);
            box.differ(0, 300);
        }, CALLS);
        bytes[5] = allocated(() -> {
            box.run();
            box.race(0, 0);
            box.race(5000, 1);
        }, CALLS);
        bytes[6] = allocated(() -> box.keep(0, 2, 0), CALLS);
        bytes[7] = allocated(() -> refused(box), CALLS);
        return bytes;
    }

    private static void refused(ReplayBox box) {
        try {
            box.value(9, 9, 9);
        } catch (IllegalArgumentException due) {
            return;
        }
    }

    private static long allocated(Runnable call, int times) {
        ThreadMXBean bean = (ThreadMXBean) ManagementFactory.getThreadMXBean();
        long id = Thread.currentThread().getId();
        long before = bean.getThreadAllocatedBytes(id);
        for (int k = 0; k < times; k++) {
            call.run();
        }
        return bean.getThreadAllocatedBytes(id) - before;
    }
}
