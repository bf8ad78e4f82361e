/** "Promise 5: number". */
final class Promise05NumberTest {
    private static final int[] EDGES = {
        Integer.MIN_VALUE, Integer.MIN_VALUE + 1, -1, 0, 1, Integer.MAX_VALUE - 1, Integer.MAX_VALUE};

    public static void main(String[] args) {
        Sentences.run(Promise05NumberTest.class);
    }

    @Sentence("A NUMBER")
    static void eachIntIsLetThroughAndIsNoOther() {
        Run run = new Run();
        for (int p = 0; p < EDGES.length; p++) {
            run.due(p, "number", EDGES[p]);
        }
        for (int p = 0; p < EDGES.length; p++) {
            int again = run.get("number", EDGES[p]);
            for (int q = 0; q < EDGES.length; q++) {
                run.due(p == q ? 1 : 0, "covers", q, again);
                run.due(p == q ? 1 : 0, "meets", again, q);
            }
        }
    }

    @Sentence("A NUMBER")
    static void isOfSort0() {
        Run run = new Run();
        run.get("sort");
        int box = run.get("con", 1, 1, 1, 0);
        int five = run.get("number", 5);
        int tree = run.get("any", 1);
        run.bad("covers", tree, five);
        run.bad("made", box, five, five);
        run.yes("clause", five);
        run.get("begin", 1);
        run.bad("clause", five);
    }

    @Sentence("A NUMBER")
    static void theSameIntAgainIsAPatternMore() {
        Run run = new Run();
        run.due(0, "number", 5);
        run.due(1, "number", 5);
        run.due(2, "count", 2);
        run.yes("clause", 0);
        run.no("clause", 1);
    }

    @Sentence("throws IndexOutOfBoundsException")
    static void the200thIsLetThroughAndTheNextIsFull() {
        Run run = new Run();
        for (int p = 0; p < 199; p++) {
            run.due(p, "number", p);
        }
        run.due(199, "number", Integer.MIN_VALUE);
        for (int v : EDGES) {
            run.full("number", v);
        }
        run.due(200, "count", 2);
        run.bad("clause", 200);
        run.yes("clause", 199);
    }
}
