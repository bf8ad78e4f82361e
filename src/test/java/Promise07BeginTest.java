/** "Promise 7: begin". */
final class Promise07BeginTest {
    public static void main(String[] args) {
        Sentences.run(Promise07BeginTest.class);
    }

    @Sentence("No CLAUSES, of a SORT")
    static void theClausesAreGone() {
        Run run = new Run();
        int any = run.get("any", 0);
        run.yes("clause", any);
        run.no("clause", any);
        run.no("open");
        run.get("begin", 0);
        run.due(0, "count", 3);
        run.due(0, "count", 4);
        run.bad("takes", 0);
        run.yes("open");
        run.yes("clause", any);
        run.no("open");
    }

    @Sentence("No CLAUSES, of a SORT")
    static void nothingElseIsGone() {
        Run run = new Run();
        run.sorts(2);
        run.get("con", 1, 0, 0, 0);
        run.get("any", 1);
        run.get("begin", 2);
        int[] due = {3, 1, 1, 0, 0, 2};
        for (int what = 0; what < due.length; what++) {
            run.due(due[what], "count", what);
        }
    }

    @Sentence("No CLAUSES, of a SORT")
    static void noClausesBeforeIsNoHarm() {
        Run run = new Run();
        run.get("begin", 0);
        run.get("begin", 0);
        run.due(0, "count", 3);
        run.yes("open");
    }

    @Sentence("No CLAUSES, of a SORT")
    static void whatFollowsMustBeOfThatSort() {
        Run run = new Run();
        run.sorts(2);
        run.get("con", 1, 0, 0, 0);
        run.get("con", 2, 0, 0, 0);
        for (int s = 0; s <= 2; s++) {
            run.get("any", s);
        }
        for (int s = 0; s <= 2; s++) {
            run.get("begin", s);
            run.bad("clause", (s + 1) % 3);
            run.bad("clause", (s + 2) % 3);
            run.yes("clause", s);
        }
    }

    @Sentence("No CLAUSES, of a SORT")
    static void thereIsRoomFor8Again() {
        Run run = new Run();
        int any = run.get("any", 0);
        for (int round = 0; round < 3; round++) {
            for (int k = 0; k < 8; k++) {
                run.due(k == 0 ? 1 : 0, "clause", any);
            }
            run.full("clause", any);
            run.get("begin", 0);
        }
    }

    @Sentence("No CLAUSES, of a SORT")
    static void thereIsRoomFor40Again() {
        Run run = new Run();
        run.get("sort");
        int link = run.get("con", 1, 1, 1, 0);
        int eight = run.chain(link, 8, run.get("any", 1));
        for (int round = 0; round < 3; round++) {
            run.get("begin", 1);
            for (int k = 0; k < 5; k++) {
                run.due(k == 0 ? 1 : 0, "clause", eight);
            }
            run.full("clause", eight);
        }
    }

    @Sentence("No CLAUSES, of a SORT")
    static void sorts0And11AreLetThroughThoseBesideAreBad() {
        Run run = new Run();
        run.sorts(11);
        int five = run.get("number", 5);
        run.yes("clause", five);
        for (int s : Run.beside(12)) {
            run.bad("begin", s);
        }
        run.due(1, "count", 3);
        run.yes("takes", 0);
        run.get("begin", 11);
        run.due(0, "count", 3);
        run.no("open");
        run.get("begin", 0);
        run.yes("open");
    }

    @Sentence("No CLAUSES, of a SORT")
    static void aSortThatIsNotYetThereIsBadAndThenLetThrough() {
        Run run = new Run();
        run.bad("begin", 1);
        run.get("sort");
        run.get("begin", 1);
        run.bad("begin", 2);
        run.no("clause", run.get("any", 1));
    }
}
