/** "Promise 9: takes". */
final class Promise09TakesTest {
    public static void main(String[] args) {
        Sentences.run(Promise09TakesTest.class);
    }

    @Sentence("CLAUSE k")
    static void noneIsThereBeforeTheFirst() {
        Run run = new Run();
        int five = run.get("number", 5);
        for (int k : Run.beside(0)) {
            run.bad("takes", k);
        }
        run.yes("clause", five);
        run.yes("takes", 0);
        run.get("begin", 0);
        run.bad("takes", 0);
    }

    @Sentence("CLAUSE k")
    static void theFirstAndTheLastAreLetThroughThoseBesideAreBad() {
        Run run = new Run();
        int five = run.get("number", 5);
        int six = run.get("number", 6);
        run.get("clause", five);
        run.get("clause", five);
        run.get("clause", six);
        for (int k : Run.beside(3)) {
            run.bad("takes", k);
        }
        run.yes("takes", 0);
        run.no("takes", 1);
        run.yes("takes", 2);
    }

    @Sentence("CLAUSE k")
    static void clause7IsLetThroughClause8IsBad() {
        Run run = new Run();
        for (int v = 0; v < 9; v++) {
            run.get("number", v);
        }
        for (int k = 0; k < 8; k++) {
            run.bad("takes", k);
            run.get("clause", k);
            run.yes("takes", k);
        }
        run.full("clause", 8);
        for (int k : Run.beside(8)) {
            run.bad("takes", k);
        }
        run.yes("takes", 7);
    }

    @Sentence("Whether there's a VALUE that CLAUSE k takes")
    static void onlyThoseBeforeItTakeAwayFromIt() {
        Run run = new Run();
        int five = run.get("number", 5);
        int any = run.get("any", 0);
        run.get("clause", five);
        run.get("clause", any);
        run.get("clause", five);
        run.get("clause", any);
        run.yes("takes", 0);
        run.yes("takes", 1);
        run.no("takes", 2);
        run.no("takes", 3);
    }

    @Sentence("Whether there's a VALUE that CLAUSE k takes")
    static void thoseBeforeItTakeAllOfItTogether() {
        Run run = new Run();
        run.sorts(2);
        int no = run.get("made", run.get("con", 1, 0, 0, 0), -1, -1);
        int yes = run.get("made", run.get("con", 1, 0, 0, 0), -1, -1);
        int any = run.get("any", 1);
        int pair = run.get("con", 2, 2, 1, 1);
        run.get("begin", 2);
        run.get("clause", run.get("made", pair, no, any));
        run.get("clause", run.get("made", pair, any, no));
        run.get("clause", run.get("any", 2));
        run.yes("takes", 2);
        run.get("begin", 2);
        run.get("clause", run.get("made", pair, no, any));
        run.get("clause", run.get("made", pair, any, no));
        run.get("clause", run.get("made", pair, any, yes));
        run.get("clause", run.get("any", 2));
        run.yes("takes", 2);
        run.no("takes", 3);
    }

    @Sentence("Whether there's a VALUE that CLAUSE k takes")
    static void oneMoreConChangesTheAnswer() {
        Run run = new Run();
        run.get("sort");
        run.get("con", 1, 0, 0, 0);
        run.get("begin", 1);
        run.get("clause", run.get("made", 0, -1, -1));
        run.get("clause", run.get("any", 1));
        run.no("takes", 1);
        run.get("con", 1, 1, 1, 0);
        run.yes("takes", 1);
        run.yes("takes", 0);
    }

    @Sentence("Whether there's a VALUE that CLAUSE k takes")
    static void aSortWithoutValuesHasNoneToTakeUntilItHasACon() {
        Run run = new Run();
        run.get("sort");
        run.get("begin", 1);
        run.get("clause", run.get("any", 1));
        run.no("takes", 0);
        run.get("con", 1, 0, 0, 0);
        run.yes("takes", 0);
    }
}
