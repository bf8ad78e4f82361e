/** "Promise 4: any". */
final class Promise04AnyTest {
    public static void main(String[] args) {
        Sentences.run(Promise04AnyTest.class);
    }

    @Sentence("ANY of a SORT")
    static void sorts0And11AreLetThroughThoseBesideAreBad() {
        Run run = new Run();
        run.sorts(11);
        for (int s : Run.beside(12)) {
            run.bad("any", s);
        }
        run.due(0, "any", 0);
        run.due(1, "any", 11);
        run.yes("covers", 0, run.get("number", Integer.MIN_VALUE));
        run.bad("covers", 0, 1);
    }

    @Sentence("ANY of a SORT")
    static void aSortThatIsNotYetThereIsBadAndThenLetThrough() {
        Run run = new Run();
        run.bad("any", 1);
        run.get("sort");
        run.due(0, "any", 1);
        run.bad("any", 2);
    }

    @Sentence("ANY of a SORT")
    static void aSortWithoutValuesIsLetThrough() {
        Run run = new Run();
        run.get("sort");
        int any = run.get("any", 1);
        run.get("begin", 1);
        run.no("clause", any);
        run.get("con", 1, 0, 0, 0);
        run.yes("takes", 0);
    }

    @Sentence("Answers the PATTERN's number (this and what follows)")
    static void numbersFrom0To199TogetherWithNumberAndMade() {
        Run run = new Run();
        run.get("sort");
        run.get("con", 1, 0, 0, 0);
        for (int p = 0; p < 198; p += 3) {
            run.due(p, "any", 1);
            run.due(p + 1, "number", p);
            run.due(p + 2, "made", 0, 0, 0);
        }
        run.due(198, "any", 0);
        run.due(199, "any", 1);
        run.due(200, "count", 2);
    }

    @Sentence("throws IllegalArgumentException, IndexOutOfBoundsException")
    static void the200thIsLetThroughAndTheNextIsFull() {
        Run run = new Run();
        for (int p = 0; p < 199; p++) {
            run.get("any", 0);
        }
        run.due(199, "any", 0);
        run.full("any", 0);
        run.bad("any", 1);
        run.due(200, "count", 2);
        run.yes("clause", 199);
    }
}
