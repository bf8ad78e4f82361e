/** "Promise 3: con". */
final class Promise03ConTest {
    public static void main(String[] args) {
        Sentences.run(Promise03ConTest.class);
    }

    @Sentence("A CON more")
    static void oneMoreEachTimeAndNothingElse() {
        Run run = new Run();
        run.get("sort");
        run.get("clause", run.get("number", 5));
        run.get("con", 1, 0, 0, 0);
        int[] due = {2, 1, 1, 1, 1, 2};
        for (int what = 0; what < due.length; what++) {
            run.due(due[what], "count", what);
        }
    }

    @Sentence("of a SORT (not 0)")
    static void sort0IsBadWhateverElseIsAsked() {
        Run run = new Run();
        run.get("sort");
        for (int n = 0; n <= 2; n++) {
            run.bad("con", 0, n, 0, 0);
            run.bad("con", 0, n, 1, 1);
        }
        run.due(0, "con", 1, 0, 0, 0);
    }

    @Sentence("of a SORT (not 0)")
    static void theFirstAndTheLastSortAreLetThroughThoseBesideAreBad() {
        Run run = new Run();
        run.sorts(3);
        for (int s : Run.beside(4)) {
            run.bad("con", s, 0, 0, 0);
            run.bad("con", s, 2, 1, 1);
        }
        run.due(0, "con", 1, 0, 0, 0);
        run.due(1, "con", 3, 0, 0, 0);
        run.yes("lives", 1);
        run.no("lives", 2);
        run.yes("lives", 3);
    }

    @Sentence("of a SORT (not 0)")
    static void sort11IsLetThroughSort12IsBad() {
        Run run = new Run();
        run.sorts(11);
        run.bad("con", 12, 0, 0, 0);
        run.due(0, "con", 11, 2, 11, 11);
        run.yes("lives", 11);
    }

    @Sentence("with n PARTS (0 .. 2)")
    static void noneToTwoAreLetThroughThoseBesideAreBad() {
        Run run = new Run();
        run.get("sort");
        for (int n : Run.beside(3)) {
            run.bad("con", 1, n, 0, 0);
        }
        run.due(0, "con", 1, 0, 0, 0);
        run.due(1, "con", 1, 1, 0, 0);
        run.due(2, "con", 1, 2, 0, 0);
        for (int n : Run.beside(3)) {
            run.bad("con", 1, n, 1, 1);
        }
        run.due(3, "count", 1);
    }

    @Sentence("with n PARTS (0 .. 2)")
    static void aConHasAsManyPartsAsWereTold() {
        Run run = new Run();
        run.get("sort");
        run.get("con", 1, 0, 0, 0);
        run.get("con", 1, 1, 0, 0);
        run.get("con", 1, 2, 0, 0);
        int five = run.get("number", 5);
        run.get("made", 0, -1, -1);
        run.bad("made", 1, -1, -1);
        run.get("made", 1, five, -1);
        run.bad("made", 2, five, -1);
        run.get("made", 2, five, five);
    }

    @Sentence("of SORTS a, b")
    static void thoseThatAreThereAreLetThroughThoseBesideAreBad() {
        Run run = new Run();
        run.sorts(2);
        for (int other : Run.beside(3)) {
            run.bad("con", 1, 1, other, 0);
            run.bad("con", 1, 2, other, 0);
            run.bad("con", 1, 2, 0, other);
            run.bad("con", 1, 2, other, other);
        }
        run.due(0, "con", 1, 1, 0, 0);
        run.due(1, "con", 1, 1, 2, 0);
        run.due(2, "con", 1, 2, 0, 2);
        run.due(3, "con", 1, 2, 2, 0);
        run.due(4, "con", 1, 2, 1, 1);
    }

    @Sentence("of SORTS a, b")
    static void aIsTheFirstAndBTheSecond() {
        Run run = new Run();
        run.get("sort");
        run.get("con", 1, 2, 0, 1);
        run.get("con", 1, 2, 1, 0);
        int number = run.get("any", 0);
        int tree = run.get("any", 1);
        run.get("made", 0, number, tree);
        run.bad("made", 0, tree, number);
        run.get("made", 1, tree, number);
        run.bad("made", 1, number, tree);
    }

    @Sentence("(those that it hasn't may be any number)")
    static void aAndBOfNoPartsAreNotLookedAt() {
        Run run = new Run();
        run.get("sort");
        int con = 0;
        for (int a : Run.beside(2)) {
            run.due(con++, "con", 1, 0, a, 0);
            run.due(con++, "con", 1, 0, 0, a);
            run.due(con++, "con", 1, 0, a, a);
            run.due(con++, "con", 1, 1, 0, a);
        }
        run.due(con, "count", 1);
        run.yes("lives", 1);
    }

    @Sentence("(those that it hasn't may be any number)")
    static void aSortWithoutValuesThatIsNoPartDoesNoHarm() {
        Run run = new Run();
        run.sorts(3);
        run.get("con", 1, 0, 3, 3);
        run.yes("lives", 1);
        run.get("con", 2, 1, 0, 3);
        run.yes("lives", 2);
        run.no("lives", 3);
    }

    @Sentence("Answers its number")
    static void numbersFrom0To29OverAllSorts() {
        Run run = new Run();
        run.sorts(11);
        for (int c = 0; c < 30; c++) {
            run.due(c, "con", 1 + c % 11, c % 3, 0, 1);
        }
        run.due(30, "count", 1);
    }

    @Sentence("throws IllegalArgumentException, IndexOutOfBoundsException")
    static void con29IsLetThroughAndTheNextIsFull() {
        Run run = new Run();
        run.sorts(2);
        for (int c = 0; c < 29; c++) {
            run.get("con", 1, 0, 0, 0);
        }
        run.due(29, "con", 2, 2, 0, 1);
        run.full("con", 1, 0, 0, 0);
        run.full("con", 2, 1, 0, 0);
        run.full("con", 2, 2, 2, 2);
        run.due(30, "count", 1);
        run.get("made", 28, -1, -1);
        run.get("made", 29, run.get("any", 0), run.get("any", 1));
        run.bad("made", 30, 0, 0);
    }
}
