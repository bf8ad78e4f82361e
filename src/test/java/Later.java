import java.util.ArrayList;
import java.util.List;

/**
 * A refused call changes nothing: a long run of calls of every kind is made behind it on an object
 * with that call and on one without it, as far as an object's calls reach, and the same answers are due.
 */
final class Later {
    private final FaceCall refused;
    private final ClauseGlass with;
    private final ClauseGlass without;
    private final List<FaceCall> cons;
    private int callsLeft;
    private boolean same = true;

    /** cons: the calls that made the CONS, in their order. */
    Later(FaceCall refused, ClauseGlass with, ClauseGlass without, List<FaceCall> cons, int callsLeft) {
        this.refused = refused;
        this.with = with;
        this.without = without;
        this.cons = cons;
        this.callsLeft = callsLeft;
    }

    void compare() {
        ask();
        askPairs();
        addClauses();
        fillClausesWith(count(2) - 1);
        List<Integer> anys = addAnys();
        List<Integer> mades = addMades(anys);
        beginEachSort(anys, mades);
        addSortsAndCons();
        ask();
        addPatternsUpToTheMost();
    }

    private void ask() {
        for (int what = 0; what <= 5; what++) {
            call("count", what);
        }
        call("open");
        for (int k = 0; k <= 8; k++) {
            call("takes", k);
        }
        for (int s = 0; s <= 12; s++) {
            call("lives", s);
        }
    }

    private void askPairs() {
        int last = count(2) - 1;
        int[] some = {0, 1, last / 2, last - 1, last};
        for (int p : some) {
            for (int q : some) {
                call("covers", p, q);
                call("meets", p, q);
            }
        }
    }

    private void addClauses() {
        int n = count(2);
        for (int p = 0; p < n; p += 1 + n / 16) {
            call("clause", p);
        }
        call("open");
        call("count", 4);
    }

    /** The same PATTERN again and again shows how much it counts. */
    private void fillClausesWith(int p) {
        int n = count(0);
        for (int s = 0; s < n; s++) {
            call("begin", s);
            for (int k = 0; k <= 8 && call("clause", p) >= 0; k++) {
                call("count", 3);
            }
        }
    }

    private List<Integer> addAnys() {
        List<Integer> anys = new ArrayList<>();
        int n = count(0);
        for (int s = 0; s < n; s++) {
            anys.add((int) call("any", s));
        }
        return anys;
    }

    private List<Integer> addMades(List<Integer> anys) {
        List<Integer> mades = new ArrayList<>();
        for (int c = 0; c < cons.size(); c++) {
            mades.add((int) call("made", c, anyOfPart(anys, c, 0), anyOfPart(anys, c, 1)));
        }
        return mades;
    }

    private int anyOfPart(List<Integer> anys, int c, int part) {
        int[] told = cons.get(c).args();
        boolean there = part < told[1] && told[2 + part] < anys.size();
        return there ? anys.get(told[2 + part]) : -1;
    }

    private void beginEachSort(List<Integer> anys, List<Integer> mades) {
        for (int s = 0; s < anys.size(); s++) {
            call("begin", s);
            for (int c = 0; c < cons.size(); c++) {
                if (cons.get(c).args()[0] == s) {
                    call("clause", mades.get(c));
                }
            }
            call("open");
            call("clause", anys.get(s));
        }
    }

    private void addSortsAndCons() {
        for (int s = count(0); s <= 12; s++) {
            call("sort");
        }
        for (int c = count(1); c <= 30; c++) {
            call("con", 1, c % 3, 0, 1);
        }
    }

    private void addPatternsUpToTheMost() {
        for (int p = count(2); p <= 200; p++) {
            call("number", p);
        }
        call("any", 0);
        call("count", 2);
    }

    private int count(int what) {
        return (int) call("count", what);
    }

    private long call(String name, int... args) {
        if (callsLeft == 0 || !same) {
            return -1;
        }
        callsLeft--;
        FaceCall call = new FaceCall(name, args);
        String want = call.answerOf(without);
        String got = call.answerOf(with);
        same = got.equals(want);
        Check.due("behind the refused " + refused + ", " + call, got, want);
        return want.startsWith("throws.") ? -1 : Long.parseLong(want);
    }
}
