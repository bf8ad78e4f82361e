/** "Promise 12: meets". */
final class Promise12MeetsTest {
    public static void main(String[] args) {
        Sentences.run(Promise12MeetsTest.class);
    }

    /** A VALUE that fits both does so whichever is told first. */
    private static void due(Run run, boolean want, int p, int q) {
        run.due(want ? 1 : 0, "meets", p, q);
        run.due(want ? 1 : 0, "meets", q, p);
    }

    @Sentence("Whether a VALUE fits both")
    static void theFirstAndTheLastPatternAreLetThroughThoseBesideAreBad() {
        Run run = new Run();
        run.get("number", 1);
        run.get("any", 0);
        run.get("number", 1);
        for (int other : Run.beside(3)) {
            run.bad("meets", other, 0);
            run.bad("meets", 0, other);
            run.bad("meets", other, other);
        }
        run.bad("meets", -1, 3);
        due(run, true, 0, 2);
    }

    @Sentence("Whether a VALUE fits both")
    static void pattern199IsLetThroughPattern200IsBad() {
        Run run = new Run();
        for (int p = 0; p < 199; p++) {
            run.get("number", p);
        }
        run.bad("meets", 0, 199);
        run.get("number", 0);
        due(run, true, 0, 199);
        due(run, false, 1, 199);
        run.bad("meets", 200, 199);
        run.bad("meets", 199, 200);
    }

    @Sentence("(of the same SORT)")
    static void onesOfTwoSortsAreBadEvenWithoutValues() {
        Run run = new Run();
        run.sorts(2);
        run.get("any", 0);
        run.get("any", 1);
        run.get("any", 2);
        for (int p = 0; p <= 2; p++) {
            for (int q = 0; q <= 2; q++) {
                if (p != q) {
                    run.bad("meets", p, q);
                }
            }
        }
        run.yes("meets", 0, 0);
    }

    @Sentence("Whether a VALUE fits both")
    static void aSortWithoutValuesHasNone() {
        Run run = new Run();
        run.sorts(2);
        int any = run.get("any", 1);
        run.no("meets", any, any);
        int box = run.get("con", 1, 1, 2, 0);
        int boxed = run.get("made", box, run.get("any", 2), -1);
        due(run, false, any, boxed);
        run.no("meets", boxed, boxed);
        run.get("con", 2, 1, 2, 0);
        run.yes("meets", any, any);
        due(run, true, any, boxed);
        run.yes("meets", boxed, boxed);
    }

    @Sentence("Whether a VALUE fits both")
    static void oneWithoutValuesMeetsNoneOfALivingSort() {
        Run run = new Run();
        run.sorts(2);
        int dead = run.get("con", 1, 2, 0, 2);
        int good = run.get("con", 1, 0, 0, 0);
        int none = run.get("made", dead, run.get("any", 0), run.get("any", 2));
        int any = run.get("any", 1);
        int leaf = run.get("made", good, -1, -1);
        due(run, false, none, any);
        due(run, false, none, leaf);
        run.no("meets", none, none);
        due(run, true, leaf, any);
        run.get("con", 2, 0, 0, 0);
        due(run, true, none, any);
        due(run, false, none, leaf);
    }

    @Sentence("Whether a VALUE fits both")
    static void theLeastAndTheGreatestInt() {
        Run run = new Run();
        int any = run.get("any", 0);
        int least = run.get("number", Integer.MIN_VALUE);
        int most = run.get("number", Integer.MAX_VALUE);
        due(run, true, any, least);
        due(run, true, any, most);
        due(run, false, least, most);
        run.yes("meets", least, least);
        run.yes("meets", most, most);
        run.yes("meets", any, any);
    }

    @Sentence("Whether a VALUE fits both")
    static void eachPartMustMeet() {
        Run run = new Run();
        run.get("sort");
        int end = run.get("made", run.get("con", 1, 0, 0, 0), -1, -1);
        int link = run.get("con", 1, 2, 0, 1);
        int number = run.get("any", 0);
        int any = run.get("any", 1);
        int five = run.get("number", 5);
        int six = run.get("number", 6);
        int last = run.get("made", link, number, end);
        int startsWith5 = run.get("made", link, five, any);
        int startsWith6 = run.get("made", link, six, any);
        int twoLong = run.get("made", link, number, last);
        due(run, true, last, startsWith5);
        due(run, false, startsWith5, startsWith6);
        due(run, false, last, twoLong);
        due(run, true, startsWith6, twoLong);
        due(run, false, end, last);
    }

    @Sentence("Whether a VALUE fits both")
    static void twoOfTheLargest() {
        Run run = new Run();
        run.get("sort");
        int link = run.get("con", 1, 2, 1, 1);
        int end = run.get("made", run.get("con", 1, 0, 0, 0), -1, -1);
        int any = run.get("any", 1);
        int closed = run.links(link, 11, any, end);
        int loose = run.links(link, 12, any, any);
        int otherSide = end;
        for (int i = 0; i < 11; i++) {
            otherSide = run.get("made", link, otherSide, any);
        }
        due(run, true, closed, otherSide);
        due(run, true, loose, otherSide);
        due(run, false, closed, loose);
    }

    @Sentence("Whether a VALUE fits both")
    static void anEndlessTreeFitsBoth() {
        Run run = new Run();
        run.get("sort");
        int link = run.get("con", 1, 1, 1, 0);
        int any = run.get("any", 1);
        int one = run.chain(link, 1, any);
        int twelve = run.chain(link, 12, any);
        due(run, true, one, twelve);
        due(run, true, any, twelve);
    }

    @Sentence("Whether a VALUE fits both")
    static void theClausesAreLeftAlone() {
        Run run = new Run();
        run.get("sort");
        run.get("con", 1, 0, 0, 0);
        int tree = run.get("any", 1);
        int five = run.get("number", 5);
        run.get("clause", five);
        run.yes("meets", tree, tree);
        run.due(1, "count", 3);
        run.yes("takes", 0);
        run.no("clause", five);
        run.yes("open");
    }
}
