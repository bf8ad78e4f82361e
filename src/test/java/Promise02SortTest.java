/** "Promise 2: sort". */
final class Promise02SortTest {
    public static void main(String[] args) {
        Sentences.run(Promise02SortTest.class);
    }

    @Sentence("A SORT more")
    static void oneMoreEachTimeAndNothingElse() {
        Run run = new Run();
        int five = run.get("number", 5);
        run.get("clause", five);
        run.get("sort");
        int[] due = {2, 0, 1, 1, 1, 1};
        for (int what = 0; what < due.length; what++) {
            run.due(due[what], "count", what);
        }
        run.no("clause", five);
        run.yes("open");
    }

    @Sentence("without CONS")
    static void aNewSortHasNoConsAndNoValues() {
        Run run = new Run();
        run.get("sort");
        run.get("con", 1, 0, 0, 0);
        run.due(2, "sort");
        run.due(1, "count", 1);
        run.no("lives", 2);
        run.get("begin", 2);
        run.no("open");
        run.yes("lives", 1);
    }

    @Sentence("without CONS")
    static void theLastSortHasNoConsEither() {
        Run run = new Run();
        for (int s = 1; s <= 11; s++) {
            run.due(s, "sort");
            run.no("lives", s);
        }
        run.due(1, "count", 5);
        run.due(0, "con", 11, 0, 0, 0);
        run.yes("lives", 11);
    }

    @Sentence("Answers its number")
    static void numbersFrom1To11() {
        Run run = new Run();
        for (int s = 1; s <= 11; s++) {
            run.bad("lives", s);
            run.due(s, "sort");
            run.no("lives", s);
            run.due(s + 1, "count", 0);
        }
    }

    @Sentence("throws IndexOutOfBoundsException")
    static void sort11IsLetThroughAndTheNextIsFull() {
        Run run = new Run();
        run.sorts(10);
        run.due(11, "sort");
        run.full("sort");
        run.full("sort");
        run.due(12, "count", 0);
        run.bad("lives", 12);
        run.get("any", 11);
    }
}
