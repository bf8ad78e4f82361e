/** "Promise 13: lives". */
final class Promise13LivesTest {
    public static void main(String[] args) {
        Sentences.run(Promise13LivesTest.class);
    }

    @Sentence("Whether a SORT has a VALUE")
    static void sorts0And11AreLetThroughThoseBesideAreBad() {
        Run run = new Run();
        run.sorts(11);
        for (int s : Run.beside(12)) {
            run.bad("lives", s);
        }
        // A set of SORTS in the bits of an int comes round at 32.
        run.bad("lives", 32);
        run.bad("lives", -32);
        run.yes("lives", 0);
        run.no("lives", 11);
        run.get("con", 11, 0, 0, 0);
        run.yes("lives", 11);
    }

    @Sentence("Whether a SORT has a VALUE")
    static void aSortThatIsNotYetThereIsBad() {
        Run run = new Run();
        for (int s = 1; s <= 11; s++) {
            run.bad("lives", s);
            run.get("sort");
            run.no("lives", s);
        }
        run.bad("lives", 12);
    }

    @Sentence("Whether a SORT has a VALUE")
    static void withoutConsItHasNone() {
        Run run = new Run();
        run.sorts(2);
        run.get("con", 2, 0, 0, 0);
        run.no("lives", 1);
        run.yes("lives", 2);
        run.get("con", 1, 0, 0, 0);
        run.yes("lives", 1);
    }

    @Sentence("Whether a SORT has a VALUE")
    static void eachPartMustHaveOne() {
        Run run = new Run();
        run.sorts(4);
        run.get("con", 1, 2, 3, 0);
        run.get("con", 2, 2, 0, 3);
        run.no("lives", 1);
        run.no("lives", 2);
        run.get("con", 4, 2, 0, 0);
        run.yes("lives", 4);
        run.get("con", 3, 0, 0, 0);
        run.yes("lives", 1);
        run.yes("lives", 2);
    }

    @Sentence("Whether a SORT has a VALUE")
    static void oneOfItsConsIsEnough() {
        Run run = new Run();
        run.sorts(2);
        for (int c = 0; c < 29; c++) {
            run.get("con", 1, 1, 2, 0);
        }
        run.no("lives", 1);
        run.get("con", 1, 0, 0, 0);
        run.yes("lives", 1);
        run.no("lives", 2);
    }

    @Sentence("Whether a SORT has a VALUE")
    static void anEndlessTreeIsOne() {
        Run run = new Run();
        run.sorts(3);
        run.get("con", 1, 2, 1, 1);
        run.yes("lives", 1);
        run.get("con", 2, 1, 3, 0);
        run.no("lives", 2);
        run.get("con", 3, 2, 2, 1);
        run.yes("lives", 2);
        run.yes("lives", 3);
    }

    @Sentence("Whether a SORT has a VALUE")
    static void aRingWithAPartWithoutValuesHasNone() {
        Run run = new Run();
        run.sorts(3);
        run.get("con", 1, 2, 2, 3);
        run.get("con", 2, 1, 1, 0);
        run.no("lives", 1);
        run.no("lives", 2);
        run.get("con", 3, 0, 0, 0);
        run.yes("lives", 1);
        run.yes("lives", 2);
    }

    @Sentence("Whether a SORT has a VALUE")
    static void theLongestWayToASortWithoutValues() {
        longestWay(1);
        longestWay(-1);
    }

    /** All SORTS in a row, each but the last with one CON, for the next one. */
    private static void longestWay(int step) {
        Run run = new Run();
        run.sorts(11);
        int first = step > 0 ? 1 : 11;
        int last = 12 - first;
        for (int s = first; s != last; s += step) {
            run.get("con", s, 1, s + step, 0);
        }
        for (int s = 1; s <= 11; s++) {
            run.no("lives", s);
        }
        run.get("con", first + 3 * step, 0, 0, 0);
        run.yes("lives", first);
        run.yes("lives", first + 3 * step);
        run.no("lives", first + 4 * step);
        run.get("con", last, 1, last, 0);
        for (int s = 1; s <= 11; s++) {
            run.yes("lives", s);
        }
    }
}
