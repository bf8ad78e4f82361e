import java.util.function.LongSupplier;

/** What the tests share: telling and counting answers that are not the ones that are due. */
final class Check {
    private static int wrong = 0;
    private static String test = "";

    private Check() { }

    /** What is told from now on is told of this test. */
    static void in(String name) {
        test = name;
    }

    static void due(String call, long got, long want) {
        if (got != want) {
            tell(call, Long.toString(got), Long.toString(want));
        }
    }

    static void due(String call, boolean got, boolean want) {
        if (got != want) {
            tell(call, Boolean.toString(got), Boolean.toString(want));
        }
    }

    static void due(String call, String got, String want) {
        if (!got.equals(want)) {
            tell(call, got, want);
        }
    }

    /** The answer of a call as a text, a thrown exception behind "throws.". */
    static String answer(LongSupplier call) {
        try {
            return Long.toString(call.getAsLong());
        } catch (RuntimeException e) {
            return "throws." + e.getClass().getSimpleName();
        }
    }

    /** The last call of a test's main method. */
    static void finish() {
        if (wrong != 0) {
            System.out.println(wrong + " answers are not as due");
            System.exit(1);
        }
    }

    private static void tell(String call, String got, String want) {
        wrong++;
        System.out.println(test + call + " answered " + got + ", due is " + want);
    }
}
