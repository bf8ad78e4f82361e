/** "What it is": what the answers tell of a choice by cases, and how many calls an object is used for. */
final class WhatItIsTest {
    public static void main(String[] args) {
        Sentences.run(WhatItIsTest.class);
    }

    @Sentence("Clauses of patterns, as a choice by cases has them: which ones can ever be reached,"
        + " and whether a value is left that none of them takes.")
    static void aChoiceByCasesOverTwoLists() {
        Run run = new Run();
        run.sorts(2);
        int end = run.get("made", run.get("con", 1, 0, 0, 0), -1, -1);
        int link = run.get("con", 1, 2, 0, 1);
        int two = run.get("con", 2, 2, 1, 1);
        int list = run.get("any", 1);
        int some = run.get("made", link, run.get("any", 0), list);
        int[] cases = {
            run.get("made", two, end, list), run.get("made", two, list, end), run.get("made", two, end, end),
            run.get("made", two, some, some), run.get("any", 2)};
        int[] reached = {1, 1, 0, 1, 0};
        int[] left = {1, 1, 1, 0, 0};
        run.get("begin", 2);
        run.yes("open");
        for (int k = 0; k < cases.length; k++) {
            run.due(reached[k], "clause", cases[k]);
            run.due(left[k], "open");
        }
        for (int k = 0; k < cases.length; k++) {
            run.due(reached[k], "takes", k);
        }
        run.due(3, "count", 4);
    }

    /** SORT 1 with an end (CON 0) and links (CON 1), both as PATTERNS (2 and 3), and one CLAUSE, the end. */
    private static Run lists() {
        Run run = new Run();
        run.get("sort");
        run.get("con", 1, 0, 0, 0);
        run.get("con", 1, 2, 0, 1);
        run.get("any", 0);
        run.get("any", 1);
        run.get("made", 0, -1, -1);
        run.get("made", 1, 0, 1);
        run.get("begin", 1);
        run.yes("clause", 2);
        run.idleUntilLeft(1);
        return run;
    }

    @Sentence("An object is used for at most 512 calls after it has been made")
    static void the512thCallIsAnsweredWhicheverItIs() {
        lists().due(2, "sort");
        lists().due(2, "con", 1, 1, 1, 0);
        lists().due(4, "any", 1);
        lists().due(4, "number", 7);
        lists().due(4, "made", 1, 0, 3);
        lists().due(0, "begin", 0);
        lists().yes("clause", 3);
        lists().no("clause", 2);
        lists().yes("takes", 0);
        lists().yes("open");
        lists().yes("covers", 1, 3);
        lists().no("meets", 2, 3);
        lists().yes("lives", 1);
        lists().due(1, "count", 4);
    }

    @Sentence("An object is used for at most 512 calls after it has been made")
    static void the512thCallIsRefusedWhereItMustBe() {
        lists().bad("con", 0, 0, 0, 0);
        lists().bad("any", 2);
        lists().bad("made", 2, 0, 1);
        lists().bad("begin", 2);
        lists().bad("clause", 0);
        lists().bad("takes", 1);
        lists().bad("covers", 0, 1);
        lists().bad("meets", 4, 4);
        lists().bad("lives", 2);
    }

    @Sentence("An object is used for at most 512 calls after it has been made")
    static void a512thCallBehindRefusedOnesAlone() {
        ClauseGlass x = new ClauseGlass();
        for (int call = 1; call < Run.MOST_CALLS; call++) {
            Check.due("lives(1)", new FaceCall("lives", call).answerOf(x), "throws.IllegalArgumentException");
        }
        Check.due("sort()", new FaceCall("sort").answerOf(x), "1");
    }

    @Sentence("An object is used for at most 512 calls after it has been made")
    static void theMostOfEverythingUpToTheLastCall() {
        Run run = new Run();
        makeSorts(run);
        makePatterns(run);
        makeClauses(run);
        Runnable[] asks = asks(run);
        for (int i = 0; run.left() > 0; i++) {
            asks[i % asks.length].run();
        }
    }

    /** SORT s has an end and a link to SORT s + 1; SORT 1 has eight ends more. */
    private static void makeSorts(Run run) {
        run.sorts(11);
        for (int s = 1; s <= 11; s++) {
            run.due(2 * s - 2, "con", s, 0, 0, 0);
            run.due(2 * s - 1, "con", s, 2, s % 11 + 1, 0);
        }
        for (int c = 22; c < 30; c++) {
            run.due(c, "con", 1, 0, 0, 0);
        }
    }

    /** 8: links from SORT 1 to SORT 5, an int at each, and an end; 9: ANY; the others: ends of SORT 1. */
    private static void makePatterns(Run run) {
        int p = run.get("made", 8, -1, -1);
        for (int s = 4; s >= 1; s--) {
            int number = run.get("number", s);
            p = run.get("made", 2 * s - 1, p, number);
        }
        run.due(9, "any", 1);
        for (p = 10; p < 200; p++) {
            run.due(p, "made", p % 2 == 0 ? 0 : 22 + p % 8, 0, 0);
        }
    }

    /** Eight CLAUSES with 40 CONS and NUMBERS. */
    private static void makeClauses(Run run) {
        run.get("begin", 1);
        for (int k = 0; k < 4; k++) {
            run.due(k == 0 ? 1 : 0, "clause", 8);
        }
        run.yes("clause", 195);
        run.yes("clause", 194);
        run.yes("clause", 193);
        run.no("clause", 192);
    }

    private static Runnable[] asks(Run run) {
        return new Runnable[] {
            () -> run.yes("open"),
            () -> run.due(12, "count", 0),
            () -> run.due(30, "count", 1),
            () -> run.due(200, "count", 2),
            () -> run.due(8, "count", 3),
            () -> run.due(4, "count", 4),
            () -> run.due(12, "count", 5),
            () -> run.yes("takes", 0),
            () -> run.no("takes", 3),
            () -> run.yes("takes", 6),
            () -> run.no("takes", 7),
            () -> run.yes("covers", 9, 8),
            () -> run.no("meets", 8, 199),
            () -> run.full("sort"),
            () -> run.full("con", 1, 0, 0, 0),
            () -> run.full("any", 1),
            () -> run.full("number", 1),
            () -> run.full("made", 0, 0, 0),
            () -> run.full("clause", 9),
        };
    }

    /** LANGUAGE.md, rules 6 and 7, go on to hold: no other exception, and an end to each call. */
    @Sentence("what later calls answer is free")
    static void laterCallsThrowNothingButBadAndFull() {
        ClauseGlass x = new ClauseGlass();
        FaceCall[] calls = {
            new FaceCall("sort"), new FaceCall("con", 1, 2, 1, 1), new FaceCall("any", 1), new FaceCall("number", 5),
            new FaceCall("made", 0, 1, 1), new FaceCall("begin", 1), new FaceCall("clause", 1),
            new FaceCall("takes", 0), new FaceCall("open"), new FaceCall("covers", 0, 1), new FaceCall("meets", 1, 1),
            new FaceCall("lives", 1), new FaceCall("count", 4), new FaceCall("any", 0)};
        for (int i = 0; i < 4 * Run.MOST_CALLS; i++) {
            FaceCall call = calls[i % calls.length];
            String got = call.answerOf(x);
            boolean other = got.startsWith("throws.") && !got.equals("throws.IllegalArgumentException")
                && !got.equals("throws.IndexOutOfBoundsException");
            Check.due("call " + (i + 1) + ", " + call + " answered " + got + ": another exception", other, false);
        }
    }
}
