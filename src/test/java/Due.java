/** Compares answers with the ones that are due, and ends the test with exit code 1 if one was another. */
final class Due {
    /** A call of the face, which may throw. */
    interface Call {
        int answer();
    }

    // No call may fail to end; a test takes seconds, so one that still goes on then never will.
    private static final int MOST_SECONDS = 600;

    private int checked;
    private int wrong;

    Due() {
        Thread watch = new Thread(Due::endLateTest);
        watch.setDaemon(true);
        watch.start();
    }

    private static void endLateTest() {
        try {
            Thread.sleep(MOST_SECONDS * 1000L);
        } catch (InterruptedException stopped) {
            return;
        }
        System.out.println("a call has not ended within " + MOST_SECONDS + " seconds");
        Runtime.getRuntime().halt(1);
    }

    void is(String call, int got, int want) {
        checked++;
        if (got != want) {
            wrong++;
            System.out.println(call + " answered " + got + ", due is " + want);
        }
    }

    void rows(String call, int[] got, int... want) {
        is(call + " in length", got.length, want.length);
        for (int k = 0; k < Math.min(got.length, want.length); k++) {
            is(call + " at " + k, got[k], want[k]);
        }
    }

    void argument(String call, Call made) {
        isText(call, outcome(made), "IllegalArgumentException");
    }

    void state(String call, Call made) {
        isText(call, outcome(made), "IllegalStateException");
    }

    void isText(String call, String got, String want) {
        checked++;
        if (!got.equals(want)) {
            wrong++;
            System.out.println(call + " answered " + got + ", due is " + want);
        }
    }

    static String outcome(Call made) {
        try {
            return Integer.toString(made.answer());
        } catch (RuntimeException thrown) {
            return thrown.getClass().getSimpleName();
        }
    }

    void close() {
        System.out.println(checked + " answers looked at, " + wrong + " not as due");
        if (wrong != 0 || checked == 0) {
            System.exit(1);
        }
    }
}
