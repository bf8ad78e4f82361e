/** "Promise 14: count". */
final class Promise14CountTest {
    public static void main(String[] args) {
        Sentences.run(Promise14CountTest.class);
    }

    @Sentence("SORTS (0)")
    static void sortsFrom1To12() {
        Run run = new Run();
        for (int n = 1; n <= 12; n++) {
            run.due(n, "count", 0);
            if (n < 12) {
                run.get("sort");
            }
        }
        run.full("sort");
        run.due(12, "count", 0);
    }

    @Sentence("CONS (1)")
    static void consFrom0To30() {
        Run run = new Run();
        run.sorts(3);
        for (int n = 0; n <= 30; n++) {
            run.due(n, "count", 1);
            if (n < 30) {
                run.get("con", 1 + n % 3, n % 3, 0, 0);
            }
        }
        run.full("con", 1, 0, 0, 0);
        run.bad("con", 0, 0, 0, 0);
        run.due(30, "count", 1);
    }

    @Sentence("PATTERNS (2)")
    static void patternsFrom0To200() {
        Run run = new Run();
        for (int n = 0; n <= 200; n++) {
            run.due(n, "count", 2);
            if (n < 200) {
                run.get(n % 2 == 0 ? "any" : "number", 0);
            }
        }
        run.full("number", 0);
        run.full("any", 0);
        run.bad("any", 1);
        run.due(200, "count", 2);
    }

    @Sentence("CLAUSES (3)")
    static void clausesFrom0To8() {
        Run run = new Run();
        int any = run.get("any", 0);
        for (int n = 0; n <= 8; n++) {
            run.due(n, "count", 3);
            if (n < 8) {
                run.get("clause", any);
            }
        }
        run.full("clause", any);
        run.bad("clause", 1);
        run.due(8, "count", 3);
        run.bad("begin", 1);
        run.due(8, "count", 3);
        run.get("begin", 0);
        run.due(0, "count", 3);
    }

    @Sentence("of these that take a VALUE (4)")
    static void from0To8() {
        Run run = new Run();
        for (int n = 0; n < 8; n++) {
            run.due(n, "count", 4);
            run.get("clause", run.get("number", n));
        }
        run.due(8, "count", 4);
        run.get("begin", 0);
        run.due(0, "count", 4);
    }

    @Sentence("of these that take a VALUE (4)")
    static void noneOfThoseOfASortWithoutValues() {
        Run run = new Run();
        run.get("sort");
        int any = run.get("any", 1);
        run.get("begin", 1);
        run.get("clause", any);
        run.get("clause", any);
        run.due(2, "count", 3);
        run.due(0, "count", 4);
        run.get("con", 1, 0, 0, 0);
        run.due(1, "count", 4);
    }

    @Sentence("of these that take a VALUE (4)")
    static void notThoseThatNoneIsLeftFor() {
        Run run = new Run();
        int five = run.get("number", 5);
        int any = run.get("any", 0);
        int[] clauses = {five, five, any, any, five};
        int[] due = {1, 1, 2, 2, 2};
        for (int k = 0; k < clauses.length; k++) {
            run.get("clause", clauses[k]);
            run.due(due[k], "count", 4);
        }
    }

    @Sentence("SORTS that have a VALUE (5)")
    static void from1To12() {
        Run run = new Run();
        run.sorts(11);
        for (int n = 1; n <= 11; n++) {
            run.due(n, "count", 5);
            run.get("con", n, 1, n, 0);
        }
        run.due(12, "count", 5);
    }

    @Sentence("SORTS that have a VALUE (5)")
    static void oneConBringsAllToLife() {
        Run run = new Run();
        run.sorts(11);
        for (int s = 1; s <= 10; s++) {
            run.get("con", s, 2, s + 1, 0);
        }
        run.due(1, "count", 5);
        run.get("con", 11, 0, 0, 0);
        run.due(12, "count", 5);
    }

    @Sentence("else -1")
    static void thoseBeside0To5() {
        Run run = new Run();
        int[] others = {Integer.MIN_VALUE, -2, -1, 6, 7, 8, 256, Integer.MAX_VALUE};
        for (int what : others) {
            run.due(-1, "count", what);
        }
        run.get("sort");
        run.get("con", 1, 0, 0, 0);
        run.get("clause", run.get("any", 0));
        for (int what : others) {
            run.due(-1, "count", what);
        }
        int[] due = {2, 1, 1, 1, 1, 2};
        for (int what = 0; what < due.length; what++) {
            run.due(due[what], "count", what);
        }
    }
}
