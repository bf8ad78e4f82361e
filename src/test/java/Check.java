import java.util.function.LongSupplier;

/** What the tests share: telling and counting answers that are not the ones that are due. */
final class Check {
    private static int wrong = 0;

    private Check() { }

    interface Call {
        void run();
    }

    static void due(String call, long got, long want) {
        if (got != want) {
            tell(call, Long.toString(got), Long.toString(want));
        }
    }

    static void due(String call, boolean got, boolean want) {
        if (got != want) {
            tell(call, Boolean.toString(got), Boolean.toString(want));
        }
    }

    static void due(String call, String got, String want) {
        if (!got.equals(want)) {
            tell(call, got, want);
        }
    }

    /** A call that must be refused as Bad, and change nothing. */
    static void bad(ClauseGlass x, String call, Call it) {
        refused(x, call, it, "throws.IllegalArgumentException");
    }

    /** A call that must be refused as FULL, and change nothing. */
    static void full(ClauseGlass x, String call, Call it) {
        refused(x, call, it, "throws.IndexOutOfBoundsException");
    }

    /** The answer of a call as a text, a thrown exception behind "throws.". */
    static String answer(LongSupplier call) {
        try {
            return Long.toString(call.getAsLong());
        } catch (RuntimeException e) {
            return "throws." + e.getClass().getSimpleName();
        }
    }

    /** All that can be asked of an object without adding to it. */
    static String state(ClauseGlass x) {
        StringBuilder text = new StringBuilder();
        for (int what = 0; what <= 5; what++) {
            text.append(x.count(what)).append(' ');
        }
        text.append(x.open());
        for (int k = 0; k < x.count(3); k++) {
            text.append(' ').append(x.takes(k));
        }
        for (int s = 0; s < x.count(0); s++) {
            text.append(' ').append(x.lives(s));
        }
        return text.toString();
    }

    /** The last call of a test's main method. */
    static void finish() {
        if (wrong != 0) {
            System.out.println(wrong + " answers are not as due");
            System.exit(1);
        }
    }

    private static void refused(ClauseGlass x, String call, Call it, String want) {
        String before = state(x);
        due(call, answer(() -> { it.run(); return 0L; }), want);
        due("state after " + call, state(x), before);
    }

    private static void tell(String call, String got, String want) {
        wrong++;
        System.out.println(call + " answered " + got + ", due is " + want);
    }
}
