/** "Promise 1: A new object": nothing at all is there but SORT 0. */
final class Promise01NewObjectTest {
    public static void main(String[] args) {
        Sentences.run(Promise01NewObjectTest.class);
    }

    @Sentence("SORT 0 alone")
    static void sort0IsThereAndNoOther() {
        Run run = new Run();
        run.due(1, "count", 0);
        run.due(1, "count", 5);
        run.yes("lives", 0);
        for (int s : Run.beside(1)) {
            run.bad("lives", s);
            run.bad("begin", s);
            run.bad("any", s);
            run.bad("con", s, 0, 0, 0);
        }
        run.due(0, "any", 0);
        run.due(1, "sort");
    }

    @Sentence("SORT 0 alone")
    static void noConsAreThere() {
        Run run = new Run();
        run.due(0, "count", 1);
        int any = run.get("any", 0);
        for (int c : Run.beside(0)) {
            run.bad("made", c, any, any);
        }
        run.bad("con", 0, 0, 0, 0);
        run.due(1, "sort");
        run.due(0, "con", 1, 0, 0, 0);
    }

    @Sentence("no PATTERNS")
    static void noPatternsAreThere() {
        Run run = new Run();
        run.due(0, "count", 2);
        for (int p : Run.beside(0)) {
            run.bad("clause", p);
            run.bad("covers", p, p);
            run.bad("meets", p, p);
        }
        run.due(0, "number", 7);
        run.yes("covers", 0, 0);
    }

    @Sentence("no CLAUSES, of SORT 0")
    static void noClausesAreThere() {
        Run run = new Run();
        run.due(0, "count", 3);
        run.due(0, "count", 4);
        for (int k : Run.beside(0)) {
            run.bad("takes", k);
        }
        run.yes("open");
    }

    @Sentence("no CLAUSES, of SORT 0")
    static void clausesAreOfSort0WithoutBegin() {
        Run run = new Run();
        run.get("sort");
        run.get("con", 1, 0, 0, 0);
        int tree = run.get("any", 1);
        int five = run.get("number", 5);
        run.bad("clause", tree);
        run.yes("clause", five);
        run.yes("open");
        run.yes("clause", run.get("any", 0));
        run.no("open");
    }

    @Sentence("SORT 0 alone")
    static void anotherObjectIsAsNew() {
        Run used = new Run();
        used.sorts(11);
        used.get("con", 1, 0, 0, 0);
        used.get("clause", used.get("any", 0));
        Run run = new Run();
        int[] due = {1, 0, 0, 0, 0, 1};
        for (int what = 0; what < due.length; what++) {
            run.due(due[what], "count", what);
        }
        run.yes("open");
        run.bad("lives", 1);
    }
}
