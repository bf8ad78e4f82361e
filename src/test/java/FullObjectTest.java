/** One object with the most of everything, asked up to the last call that an object is used for. */
final class FullObjectTest {
    private static final int CALLS = 512;

    private final ClauseGlass x = new ClauseGlass();
    private int calls = 0;

    public static void main(String[] args) {
        new FullObjectTest().run();
        Check.finish();
    }

    private void run() {
        makeSorts();
        int links = makePatterns();
        makeClauses(links);
        Check.due("all but the last call", calls < CALLS, true);
        while (calls < CALLS) {
            ask();
        }
    }

    /** SORT s has an end and a link to SORT s + 1; SORT 1 has eight ends more. */
    private void makeSorts() {
        for (int s = 1; s <= 11; s++) {
            due("sort()", x.sort(), s);
        }
        for (int s = 1; s <= 11; s++) {
            due("an end", x.con(s, 0, 0, 0), 2 * s - 2);
            due("a link", x.con(s, 2, s % 11 + 1, 0), 2 * s - 1);
        }
        for (int c = 22; c < 30; c++) {
            due("an end more", x.con(1, 0, 0, 0), c);
        }
    }

    /** Links from SORT 1 to SORT 5, an int at each, and an end: 9 CONS and NUMBERS. */
    private int makePatterns() {
        int p = 0;
        due("the end of SORT 5", x.made(8, -1, -1), p);
        for (int s = 4; s >= 1; s--) {
            due("an int", x.number(s), p + 1);
            due("a link", x.made(2 * s - 1, p, p + 1), p + 2);
            p += 2;
        }
        int links = p;
        due("ANY of SORT 1", x.any(1), p + 1);
        for (p += 2; p < 200; p++) {
            due("an end of SORT 1", x.made(p % 2 == 0 ? 0 : 22 + p % 8, 0, 0), p);
        }
        return links;
    }

    private void makeClauses(int links) {
        x.begin(1);
        calls++;
        for (int k = 0; k < 4; k++) {
            due("the links", x.clause(links), k == 0);
        }
        for (int k = 4; k < 8; k++) {
            // 195 and 193 have ends of their own, 194 and 192 the same one.
            due("an end", x.clause(199 - k), k != 7);
        }
    }

    private void ask() {
        due("open()", x.open(), true);
        due("count(0)", x.count(0), 12);
        due("count(1)", x.count(1), 30);
        due("count(2)", x.count(2), 200);
        due("count(3)", x.count(3), 8);
        due("count(4)", x.count(4), 4);
        due("count(5)", x.count(5), 12);
        due("takes(0)", x.takes(0), true);
        due("takes(3)", x.takes(3), false);
        due("takes(6)", x.takes(6), true);
        due("takes(7)", x.takes(7), false);
        due("covers(9, 8)", x.covers(9, 8), true);
        due("meets(8, 199)", x.meets(8, 199), false);
        full("sort()", () -> x.sort());
        full("con(1, 0, 0, 0)", () -> x.con(1, 0, 0, 0));
        full("any(1)", () -> x.any(1));
        full("number(1)", () -> x.number(1));
        full("made(0, 0, 0)", () -> x.made(0, 0, 0));
        full("clause(9)", () -> x.clause(9));
    }

    private void due(String call, long got, long want) {
        calls++;
        if (calls <= CALLS) {
            Check.due("call " + calls + ": " + call, got, want);
        }
    }

    private void due(String call, boolean got, boolean want) {
        due(call, got ? 1 : 0, want ? 1 : 0);
    }

    private void full(String call, Check.Call it) {
        calls++;
        String got = Check.answer(() -> { it.run(); return 0L; });
        if (calls <= CALLS) {
            Check.due("call " + calls + ": " + call, got, "throws.IndexOutOfBoundsException");
        }
    }
}
