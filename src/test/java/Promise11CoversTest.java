/** "Promise 11: covers". */
final class Promise11CoversTest {
    public static void main(String[] args) {
        Sentences.run(Promise11CoversTest.class);
    }

    @Sentence("Whether all VALUES that fit q fit p")
    static void theFirstAndTheLastPatternAreLetThroughThoseBesideAreBad() {
        Run run = new Run();
        run.get("number", 1);
        run.get("any", 0);
        run.get("number", 1);
        for (int other : Run.beside(3)) {
            run.bad("covers", other, 0);
            run.bad("covers", 0, other);
            run.bad("covers", other, other);
        }
        run.bad("covers", -1, 3);
        run.yes("covers", 0, 2);
        run.yes("covers", 2, 0);
    }

    @Sentence("Whether all VALUES that fit q fit p")
    static void pattern199IsLetThroughPattern200IsBad() {
        Run run = new Run();
        for (int p = 0; p < 199; p++) {
            run.get("number", p);
        }
        run.bad("covers", 199, 0);
        run.get("any", 0);
        run.yes("covers", 199, 0);
        run.no("covers", 0, 199);
        run.bad("covers", 200, 199);
        run.bad("covers", 199, 200);
    }

    @Sentence("(of the same SORT)")
    static void onesOfTwoSortsAreBadEvenWithoutValues() {
        Run run = new Run();
        run.sorts(2);
        run.get("any", 0);
        run.get("any", 1);
        run.get("any", 2);
        for (int p = 0; p <= 2; p++) {
            for (int q = 0; q <= 2; q++) {
                if (p != q) {
                    run.bad("covers", p, q);
                }
            }
            run.yes("covers", p, p);
        }
    }

    @Sentence("Whether all VALUES that fit q fit p")
    static void aPatternWithoutValuesIsCoveredByEachOfItsSort() {
        Run run = new Run();
        run.sorts(2);
        int dead = run.get("con", 1, 1, 2, 0);
        int good = run.get("con", 1, 0, 0, 0);
        int none = run.get("made", dead, run.get("any", 2), -1);
        int leaf = run.get("made", good, -1, -1);
        int any = run.get("any", 1);
        run.yes("covers", leaf, none);
        run.yes("covers", none, none);
        run.no("covers", none, leaf);
        run.no("covers", none, any);
        run.yes("covers", leaf, any);
        run.get("con", 2, 0, 0, 0);
        run.no("covers", leaf, none);
        run.no("covers", leaf, any);
        run.yes("covers", any, none);
    }

    @Sentence("Whether all VALUES that fit q fit p")
    static void theLeastAndTheGreatestInt() {
        Run run = new Run();
        int any = run.get("any", 0);
        int least = run.get("number", Integer.MIN_VALUE);
        int most = run.get("number", Integer.MAX_VALUE);
        run.yes("covers", any, least);
        run.yes("covers", any, most);
        run.no("covers", least, any);
        run.no("covers", most, any);
        run.no("covers", least, most);
        run.no("covers", most, least);
        run.yes("covers", least, least);
        run.yes("covers", any, any);
    }

    @Sentence("Whether all VALUES that fit q fit p")
    static void theOnlyLivingConCoversAnyUntilThereIsAnother() {
        Run run = new Run();
        run.sorts(2);
        int only = run.get("con", 1, 0, 0, 0);
        int box = run.get("con", 2, 1, 1, 0);
        int any = run.get("any", 2);
        int leaf = run.get("made", box, run.get("made", only, -1, -1), -1);
        int loose = run.get("made", box, run.get("any", 1), -1);
        run.yes("covers", leaf, any);
        run.yes("covers", leaf, loose);
        run.get("con", 1, 0, 0, 0);
        run.no("covers", leaf, any);
        run.no("covers", leaf, loose);
        run.yes("covers", loose, any);
    }

    @Sentence("Whether all VALUES that fit q fit p")
    static void eachPartMustBeCovered() {
        Run run = new Run();
        run.get("sort");
        int end = run.get("made", run.get("con", 1, 0, 0, 0), -1, -1);
        int link = run.get("con", 1, 2, 0, 1);
        int number = run.get("any", 0);
        int any = run.get("any", 1);
        int five = run.get("number", 5);
        int some = run.get("made", link, number, any);
        int last = run.get("made", link, number, end);
        int startsWith5 = run.get("made", link, five, any);
        int only5 = run.get("made", link, five, end);
        run.yes("covers", any, some);
        run.no("covers", some, any);
        run.yes("covers", last, only5);
        run.yes("covers", startsWith5, only5);
        run.no("covers", last, startsWith5);
        run.no("covers", startsWith5, last);
        run.no("covers", only5, last);
        run.no("covers", only5, startsWith5);
        run.no("covers", some, end);
    }

    @Sentence("Whether all VALUES that fit q fit p")
    static void twoOfTheLargest() {
        Run run = new Run();
        run.get("sort");
        int link = run.get("con", 1, 2, 1, 1);
        int end = run.get("made", run.get("con", 1, 0, 0, 0), -1, -1);
        int any = run.get("any", 1);
        int closed = run.links(link, 11, any, end);
        int loose = run.links(link, 12, any, any);
        int elevenLoose = run.links(link, 11, any, any);
        int otherSide = end;
        for (int i = 0; i < 11; i++) {
            otherSide = run.get("made", link, otherSide, any);
        }
        run.yes("covers", closed, closed);
        run.no("covers", closed, otherSide);
        run.no("covers", otherSide, closed);
        run.no("covers", loose, closed);
        run.no("covers", closed, loose);
        run.yes("covers", elevenLoose, closed);
        run.yes("covers", elevenLoose, loose);
        run.no("covers", loose, elevenLoose);
    }

    @Sentence("Whether all VALUES that fit q fit p")
    static void theClausesAreLeftAlone() {
        Run run = new Run();
        run.get("sort");
        run.get("con", 1, 0, 0, 0);
        int tree = run.get("any", 1);
        int five = run.get("number", 5);
        run.get("clause", five);
        run.yes("covers", tree, tree);
        run.yes("covers", five, five);
        run.due(1, "count", 3);
        run.yes("takes", 0);
        run.no("clause", five);
        run.yes("open");
    }
}
