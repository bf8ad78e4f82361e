/** "Promise 8: clause". */
final class Promise08ClauseTest {
    public static void main(String[] args) {
        Sentences.run(Promise08ClauseTest.class);
    }

    @Sentence("A CLAUSE more")
    static void theFirstAndTheLastPatternAreLetThroughThoseBesideAreBad() {
        Run run = new Run();
        run.get("number", 1);
        run.get("number", 2);
        run.get("number", 3);
        for (int p : Run.beside(3)) {
            run.bad("clause", p);
        }
        run.due(0, "count", 3);
        run.yes("clause", 0);
        run.yes("clause", 2);
        run.due(2, "count", 3);
        for (int p : Run.beside(3)) {
            run.bad("clause", p);
        }
        run.yes("clause", 1);
    }

    @Sentence("A CLAUSE more")
    static void pattern199IsLetThroughPattern200IsBad() {
        Run run = new Run();
        for (int p = 0; p < 200; p++) {
            run.get("number", p);
        }
        run.bad("clause", 200);
        run.yes("clause", 199);
        run.yes("clause", 0);
    }

    @Sentence("A CLAUSE more")
    static void oneOfAnotherSortIsBad() {
        Run run = new Run();
        run.sorts(2);
        run.get("con", 1, 0, 0, 0);
        int number = run.get("any", 0);
        int tree = run.get("any", 1);
        int none = run.get("any", 2);
        run.bad("clause", tree);
        run.bad("clause", none);
        run.yes("clause", number);
        run.bad("clause", tree);
        run.get("begin", 1);
        run.bad("clause", number);
        run.bad("clause", none);
        run.yes("clause", tree);
    }

    @Sentence("A CLAUSE more")
    static void theSamePatternAgainIsAClauseMore() {
        Run run = new Run();
        int five = run.get("number", 5);
        run.yes("clause", five);
        run.no("clause", five);
        run.due(2, "count", 3);
        run.due(1, "count", 4);
        run.yes("takes", 0);
        run.no("takes", 1);
    }

    @Sentence("throws IllegalArgumentException, IndexOutOfBoundsException")
    static void the8thIsLetThroughAndTheNextIsFull() {
        Run run = new Run();
        for (int v = 0; v < 9; v++) {
            run.get("number", v);
        }
        int any = run.get("any", 0);
        for (int k = 0; k < 8; k++) {
            run.yes("clause", k);
        }
        run.full("clause", 8);
        run.full("clause", 0);
        run.full("clause", any);
        run.due(8, "count", 3);
        run.yes("takes", 7);
        run.yes("open");
    }

    @Sentence("Answers whether there's a VALUE that it takes")
    static void noneIsLeftForItBehindAny() {
        Run run = new Run();
        int any = run.get("any", 0);
        int least = run.get("number", Integer.MIN_VALUE);
        int most = run.get("number", Integer.MAX_VALUE);
        run.yes("clause", least);
        run.yes("clause", most);
        run.no("clause", least);
        run.yes("clause", any);
        run.no("clause", any);
        run.no("clause", most);
    }

    @Sentence("Answers whether there's a VALUE that it takes")
    static void eachLeavesSomeOfItAndAllTogetherNone() {
        Run run = new Run();
        run.sorts(2);
        int no = run.get("made", run.get("con", 1, 0, 0, 0), -1, -1);
        int yes = run.get("made", run.get("con", 1, 0, 0, 0), -1, -1);
        int any = run.get("any", 1);
        int pair = run.get("con", 2, 2, 1, 1);
        run.get("begin", 2);
        run.yes("clause", run.get("made", pair, no, any));
        run.yes("clause", run.get("made", pair, any, no));
        run.yes("open");
        run.yes("clause", run.get("made", pair, any, any));
        run.no("open");
        run.no("clause", run.get("made", pair, yes, yes));
        run.get("begin", 2);
        run.yes("clause", run.get("made", pair, yes, no));
        run.yes("clause", run.get("made", pair, no, any));
        run.no("clause", run.get("made", pair, any, no));
        run.yes("open");
        run.yes("clause", run.get("made", pair, yes, any));
        run.no("open");
        run.no("clause", run.get("any", 2));
    }

    @Sentence("Answers whether there's a VALUE that it takes")
    static void aSortWithoutValuesHasNoneToTake() {
        Run run = new Run();
        run.sorts(2);
        int dead = run.get("con", 1, 2, 0, 2);
        int any = run.get("any", 1);
        int made = run.get("made", dead, run.get("number", 1), run.get("any", 2));
        run.get("begin", 1);
        run.no("clause", any);
        run.no("clause", made);
        run.due(2, "count", 3);
        run.due(0, "count", 4);
    }

    @Sentence("Answers whether there's a VALUE that it takes")
    static void aConWithAPartWithoutValuesTakesNone() {
        Run run = new Run();
        run.sorts(2);
        int good = run.get("con", 1, 1, 0, 0);
        int dead = run.get("con", 1, 1, 2, 0);
        int any = run.get("any", 1);
        run.get("begin", 1);
        run.no("clause", run.get("made", dead, run.get("any", 2), -1));
        run.yes("open");
        run.yes("clause", run.get("made", good, run.get("any", 0), -1));
        run.no("open");
        run.no("clause", any);
        run.get("con", 2, 0, 0, 0);
        run.yes("takes", 0);
        run.no("takes", 2);
        run.no("open");
    }

    @Sentence("(as SORTS and CONS are now)")
    static void aConMoreGivesTheNextOneAValue() {
        Run run = new Run();
        run.get("sort");
        int only = run.get("made", run.get("con", 1, 0, 0, 0), -1, -1);
        int any = run.get("any", 1);
        run.get("begin", 1);
        run.yes("clause", only);
        run.no("clause", any);
        run.get("con", 1, 0, 0, 0);
        run.yes("takes", 1);
        run.no("clause", any);
        run.get("begin", 1);
        run.yes("clause", only);
        run.yes("clause", any);
    }

    @Sentence("(as SORTS and CONS are now)")
    static void aConMoreMendsAPartWithoutValues() {
        Run run = new Run();
        run.sorts(2);
        int box = run.get("con", 1, 1, 2, 0);
        int boxed = run.get("made", box, run.get("any", 2), -1);
        run.get("begin", 1);
        run.no("clause", boxed);
        run.get("begin", 1);
        run.get("con", 2, 1, 2, 0);
        run.yes("clause", boxed);
    }

    @Sentence("(as SORTS and CONS are now)")
    static void aConThatIsFullGivesNoValue() {
        Run run = new Run();
        run.sorts(2);
        int only = run.get("con", 2, 0, 0, 0);
        for (int c = 1; c < 30; c++) {
            run.get("con", 1, 0, 0, 0);
        }
        run.get("begin", 2);
        run.yes("clause", run.get("made", only, -1, -1));
        run.full("con", 2, 0, 0, 0);
        run.no("open");
        run.no("clause", run.get("any", 2));
    }
}
