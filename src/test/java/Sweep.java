import java.util.ArrayList;
import java.util.List;
import java.util.TreeSet;

/** One method called in states of all kinds, from new to full, with each argument at each of its edges. */
final class Sweep {
    private static final int[] EDGES = {
        Integer.MIN_VALUE, -1, 0, 1, 2, 3, 7, 8, 11, 12, 29, 30, 199, 200, Integer.MAX_VALUE};

    private final String name;
    private final int arguments;
    private final TreeSet<String> ends = new TreeSet<>();

    Sweep(String name, int arguments) {
        this.name = name;
        this.arguments = arguments;
    }

    /** What the calls came to: "an answer", and the names of exceptions. */
    TreeSet<String> ends() {
        for (List<FaceCall> state : List.of(List.<FaceCall>of(), some(), withoutValues(), most(), most40())) {
            sweep(state);
        }
        return ends;
    }

    private void sweep(List<FaceCall> state) {
        ClauseGlass x = null;
        int calls = Run.MOST_CALLS;
        int all = (int) Math.pow(EDGES.length, arguments);
        for (int i = 0; i < all; i++) {
            if (calls == Run.MOST_CALLS) {
                x = in(state);
                calls = state.size();
            }
            String got = new FaceCall(name, edges(i)).answerOf(x);
            ends.add(got.startsWith("throws.") ? got.substring("throws.".length()) : "an answer");
            calls++;
        }
    }

    private int[] edges(int which) {
        int[] args = new int[arguments];
        int rest = which;
        for (int i = 0; i < arguments; i++) {
            args[i] = EDGES[rest % EDGES.length];
            rest /= EDGES.length;
        }
        return args;
    }

    private static ClauseGlass in(List<FaceCall> state) {
        ClauseGlass x = new ClauseGlass();
        for (FaceCall call : state) {
            String got = call.answerOf(x);
            Check.due("before the sweep, " + call + " answered " + got + ": refused", got.startsWith("throws."), false);
        }
        return x;
    }

    /** SORT 1: lists of ints, with two CLAUSES; SORT 2: boxes with two lists. */
    private static List<FaceCall> some() {
        return List.of(
            new FaceCall("sort"), new FaceCall("sort"),
            new FaceCall("con", 1, 0, 0, 0), new FaceCall("con", 1, 2, 0, 1), new FaceCall("con", 2, 2, 1, 1),
            new FaceCall("any", 0), new FaceCall("any", 1), new FaceCall("number", 5),
            new FaceCall("made", 0, -1, -1), new FaceCall("made", 1, 2, 3), new FaceCall("made", 1, 0, 1),
            new FaceCall("made", 2, 1, 3), new FaceCall("begin", 1), new FaceCall("clause", 4),
            new FaceCall("clause", 3));
    }

    private static List<FaceCall> withoutValues() {
        return List.of(
            new FaceCall("sort"), new FaceCall("sort"), new FaceCall("con", 1, 2, 1, 2), new FaceCall("any", 1),
            new FaceCall("any", 2), new FaceCall("made", 0, 0, 1), new FaceCall("begin", 1),
            new FaceCall("clause", 2), new FaceCall("clause", 0));
    }

    /** As many SORTS, CONS, PATTERNS and CLAUSES as there can be. */
    private static List<FaceCall> most() {
        List<FaceCall> calls = new ArrayList<>();
        for (int s = 1; s < 12; s++) {
            calls.add(new FaceCall("sort"));
        }
        for (int c = 0; c < 30; c++) {
            calls.add(new FaceCall("con", 1 + c % 11, c % 3, c % 12, c % 7));
        }
        calls.add(new FaceCall("any", 1));
        for (int p = 1; p < 200; p++) {
            calls.add(p % 2 == 0 ? new FaceCall("any", p % 12) : new FaceCall("number", p));
        }
        for (int k = 0; k < 8; k++) {
            calls.add(new FaceCall("clause", 1 + 2 * k));
        }
        return calls;
    }

    /** Four CLAUSES with 40 CONS. */
    private static List<FaceCall> most40() {
        List<FaceCall> calls = new ArrayList<>(
            List.of(new FaceCall("sort"), new FaceCall("con", 1, 1, 1, 0), new FaceCall("any", 1)));
        for (int size = 1; size <= 12; size++) {
            calls.add(new FaceCall("made", 0, size - 1, -1));
        }
        calls.add(new FaceCall("begin", 1));
        for (int size : new int[] {12, 12, 12, 4}) {
            calls.add(new FaceCall("clause", size));
        }
        return calls;
    }
}
