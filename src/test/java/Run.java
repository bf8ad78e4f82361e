import java.util.ArrayList;
import java.util.List;

/** Calls on a new object, each with the answer that is due. */
final class Run {
    static final int MOST_CALLS = 512;

    private final ClauseGlass x = new ClauseGlass();
    private final List<FaceCall> calls = new ArrayList<>();
    private final List<FaceCall> cons = new ArrayList<>();

    /** Numbers that are not there where 0 .. bound - 1 are. */
    static int[] beside(int bound) {
        return new int[] {Integer.MIN_VALUE, -1, bound, Integer.MAX_VALUE};
    }

    void due(long want, String name, int... args) {
        make(new FaceCall(name, args), Long.toString(want));
    }

    void yes(String name, int... args) {
        due(1, name, args);
    }

    void no(String name, int... args) {
        due(0, name, args);
    }

    /** A call that prepares others: it must be answered, with whatever number. */
    int get(String name, int... args) {
        FaceCall call = new FaceCall(name, args);
        String got = call.answerOf(x);
        keep(call, got);
        boolean refused = got.startsWith("throws.");
        Check.due(call + " answered " + got + ": refused", refused, false);
        return refused ? -1 : Integer.parseInt(got);
    }

    void bad(String name, int... args) {
        refused(new FaceCall(name, args), "throws.IllegalArgumentException");
    }

    void full(String name, int... args) {
        refused(new FaceCall(name, args), "throws.IndexOutOfBoundsException");
    }

    /** So many SORTS more. */
    void sorts(int more) {
        for (int i = 0; i < more; i++) {
            get("sort");
        }
    }

    /** So many CONS c, which have one PART, above a PATTERN. */
    int chain(int c, int more, int below) {
        int p = below;
        for (int i = 0; i < more; i++) {
            p = get("made", c, p, -1);
        }
        return p;
    }

    /** So many CONS c, each with the same first PART, one in the other's second, a PATTERN in the last. */
    int links(int c, int more, int first, int last) {
        int p = last;
        for (int i = 0; i < more; i++) {
            p = get("made", c, first, p);
        }
        return p;
    }

    /** How many calls the object is used for yet. */
    int left() {
        return MOST_CALLS - calls.size();
    }

    /** Calls that change nothing, until so many are left. */
    void idleUntilLeft(int wanted) {
        while (left() > wanted) {
            due(-1, "count", -1);
        }
    }

    // What follows is tried with and without the refused call, on objects of their own:
    // that uses up an object, and this one has more calls to answer.
    private void refused(FaceCall call, String want) {
        ClauseGlass without = again();
        ClauseGlass with = again();
        call.answerOf(with);
        new Later(call, with, without, cons, left() - 1).compare();
        make(call, want);
    }

    private ClauseGlass again() {
        ClauseGlass same = new ClauseGlass();
        for (FaceCall call : calls) {
            call.answerOf(same);
        }
        return same;
    }

    private void make(FaceCall call, String want) {
        String got = call.answerOf(x);
        keep(call, got);
        Check.due("call " + calls.size() + ", " + call, got, want);
    }

    private void keep(FaceCall call, String got) {
        calls.add(call);
        if (call.name().equals("con") && !got.startsWith("throws.")) {
            cons.add(call);
        }
        if (calls.size() > MOST_CALLS) {
            throw new AssertionError("more calls than an object is used for");
        }
    }
}
