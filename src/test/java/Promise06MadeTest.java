/** "Promise 6: made". */
final class Promise06MadeTest {
    public static void main(String[] args) {
        Sentences.run(Promise06MadeTest.class);
    }

    /** SORT 1 with CONS 0 (no PARTS), 1 (an int), 2 (an int and a tree); PATTERNS 0: ANY int, 1: ANY tree. */
    private static Run lists() {
        Run run = new Run();
        run.get("sort");
        run.get("con", 1, 0, 0, 0);
        run.get("con", 1, 1, 0, 0);
        run.get("con", 1, 2, 0, 1);
        run.get("any", 0);
        run.get("any", 1);
        return run;
    }

    @Sentence("A CON with PATTERNS p, q")
    static void theFirstAndTheLastConAreLetThroughThoseBesideAreBad() {
        Run run = lists();
        for (int c : Run.beside(3)) {
            run.bad("made", c, 0, 1);
        }
        run.due(2, "made", 0, 0, 1);
        run.due(3, "made", 2, 0, 1);
        run.get("con", 1, 1, 0, 0);
        run.due(4, "made", 3, 0, 1);
        run.bad("made", 4, 0, 1);
    }

    @Sentence("A CON with PATTERNS p, q")
    static void theFirstAndTheLastPatternAreLetThroughThoseBesideAreBad() {
        Run run = lists();
        for (int other : Run.beside(2)) {
            run.bad("made", 1, other, 0);
            run.bad("made", 2, other, 1);
            run.bad("made", 2, 0, other);
            run.bad("made", 2, other, other);
        }
        run.due(2, "made", 2, 0, 1);
        run.due(3, "made", 2, 0, 2);
        run.due(4, "made", 2, 0, 3);
        run.bad("made", 2, 0, 5);
    }

    @Sentence("A CON with PATTERNS p, q")
    static void onesOfAnotherSortAreBad() {
        Run run = lists();
        run.bad("made", 1, 1, 0);
        run.bad("made", 2, 1, 1);
        run.bad("made", 2, 0, 0);
        run.bad("made", 2, 1, 0);
        run.due(2, "count", 2);
    }

    @Sentence("A CON with PATTERNS p, q")
    static void isOfTheConsSort() {
        Run run = lists();
        run.get("sort");
        int box = run.get("con", 2, 1, 1, 0);
        int link = run.get("made", 2, 0, 1);
        int boxed = run.get("made", box, link, -1);
        run.bad("made", box, boxed, -1);
        run.bad("covers", link, boxed);
        run.get("begin", 2);
        run.bad("clause", link);
        run.yes("clause", boxed);
    }

    @Sentence("(those that it hasn't may be any number)")
    static void pAndQOfNoPartsAreNotLookedAt() {
        Run run = lists();
        int made = 2;
        for (int other : Run.beside(100)) {
            run.due(made++, "made", 0, other, 0);
            run.due(made++, "made", 0, 0, other);
            run.due(made++, "made", 0, other, other);
            run.due(made++, "made", 1, 0, other);
        }
        run.due(made, "count", 2);
        run.yes("covers", 2, 4);
        run.yes("covers", 5, 9);
    }

    @Sentence("(those that it hasn't may be any number)")
    static void pAndQOfNoPartsAreNotCounted() {
        Run run = lists();
        int five = run.get("number", 5);
        int twelve = run.links(2, 12, 0, 1);
        int leaf = run.get("made", 0, twelve, twelve);
        int box = run.get("made", 1, five, twelve);
        run.get("begin", 1);
        for (int k = 0; k < 3; k++) {
            run.get("clause", twelve);
        }
        run.yes("clause", leaf);
        run.yes("clause", box);
        run.no("clause", leaf);
        run.full("clause", leaf);
    }

    @Sentence("FULL, too, if it would have more than 12")
    static void aChainOf12ConsIsLetThroughThe13thIsFull() {
        Run run = new Run();
        run.get("sort");
        run.get("con", 1, 1, 1, 0);
        int p = run.get("any", 1);
        for (int size = 1; size <= 12; size++) {
            run.due(size, "made", 0, p, 0);
            p = size;
        }
        run.full("made", 0, 12, 0);
        run.due(13, "count", 2);
        run.due(13, "made", 0, 11, 0);
        run.full("made", 0, 13, 0);
    }

    @Sentence("FULL, too, if it would have more than 12")
    static void bothPartsCount() {
        Run run = new Run();
        run.get("sort");
        run.get("con", 1, 2, 1, 1);
        run.get("con", 1, 1, 1, 0);
        int any = run.get("any", 1);
        int five = run.chain(1, 5, any);
        int six = run.chain(1, 1, five);
        int eleven = run.chain(1, 5, six);
        int twelve = run.chain(1, 1, eleven);
        run.get("made", 0, five, six);
        run.get("made", 0, six, five);
        run.full("made", 0, six, six);
        run.get("made", 0, eleven, any);
        run.get("made", 0, any, eleven);
        run.full("made", 0, eleven, run.get("made", 1, any, -1));
        run.full("made", 0, twelve, any);
        run.full("made", 0, any, twelve);
        run.full("made", 0, twelve, twelve);
    }

    @Sentence("FULL, too, if it would have more than 12")
    static void numbersCountAndAnysDoNot() {
        Run run = lists();
        int five = run.get("number", 5);
        int ten = run.links(2, 10, 0, 1);
        int eleven = run.get("made", 2, 0, ten);
        run.get("made", 2, five, ten);
        run.full("made", 2, five, eleven);
        run.get("made", 2, 0, eleven);
        int sixPairs = run.links(2, 6, five, 1);
        run.full("made", 2, 0, sixPairs);
        run.full("made", 2, five, sixPairs);
    }

    @Sentence("throws IllegalArgumentException, IndexOutOfBoundsException")
    static void the200thIsLetThroughAndTheNextIsFull() {
        Run run = lists();
        for (int p = 2; p < 199; p++) {
            run.due(p, "made", 0, 0, 0);
        }
        run.due(199, "made", 2, 0, 1);
        run.full("made", 0, 0, 0);
        run.full("made", 1, 0, 0);
        run.full("made", 2, 0, 1);
        run.due(200, "count", 2);
        run.yes("covers", 1, 199);
    }
}
