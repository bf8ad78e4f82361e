/** Promises 7 (begin), 8 (clause), 9 (takes) and 10 (open). */
final class ClausesTest {
    public static void main(String[] args) {
        beginEmpties();
        badClauses();
        eightClausesAtMost();
        fortyInAllAtMost();
        intsAreNeverUsedUp();
        firstOneTakes();
        deadSorts();
        deadParts();
        endlessValuesAreTaken();
        answersFollowSortsAndCons();
        reachedByWhatIsLeftTogether();
        Check.finish();
    }

    private static void beginEmpties() {
        ClauseGlass x = new ClauseGlass();
        x.sort();
        x.con(1, 0, 0, 0);
        int anyInt = x.any(0);
        int any1 = x.any(1);
        x.clause(anyInt);
        Check.due("closed", x.open(), false);
        x.begin(1);
        Check.due("no CLAUSES", x.count(3), 0);
        Check.due("open again", x.open(), true);
        Check.bad(x, "takes(0) after begin", () -> x.takes(0));
        Check.bad(x, "a CLAUSE of the SORT before", () -> x.clause(anyInt));
        Check.due("a CLAUSE of the new SORT", x.clause(any1), true);
        Check.bad(x, "begin(2)", () -> x.begin(2));
        Check.bad(x, "begin(-1)", () -> x.begin(-1));
        x.begin(1);
        Check.due("the same SORT once more", x.clause(any1), true);
        Check.due("PATTERNS stay", x.count(2), 2);
    }

    private static void badClauses() {
        ClauseGlass x = new ClauseGlass();
        x.sort();
        int five = x.number(5);
        int any1 = x.any(1);
        Check.bad(x, "clause of no PATTERN", () -> x.clause(2));
        Check.bad(x, "clause of PATTERN -1", () -> x.clause(-1));
        Check.bad(x, "clause of another SORT", () -> x.clause(any1));
        x.clause(five);
        Check.bad(x, "takes(1)", () -> x.takes(1));
        Check.bad(x, "takes(-1)", () -> x.takes(-1));
        Check.due("takes(0)", x.takes(0), true);
    }

    private static void eightClausesAtMost() {
        ClauseGlass x = new ClauseGlass();
        x.sort();
        int any1 = x.any(1);
        for (int k = 0; k < 8; k++) {
            Check.due("clause " + k, x.clause(x.number(k)), true);
        }
        Check.full(x, "clause the 9th", () -> x.clause(1));
        Check.bad(x, "clause the 9th of another SORT", () -> x.clause(any1));
        Check.bad(x, "clause the 9th of no PATTERN", () -> x.clause(9));
        Check.due("takes(7)", x.takes(7), true);
        Check.bad(x, "takes(8)", () -> x.takes(8));
        Check.due("ints are left", x.open(), true);
    }

    private static void fortyInAllAtMost() {
        ClauseGlass x = new ClauseGlass();
        x.sort();
        x.con(1, 1, 1, 0);
        x.con(1, 2, 1, 0);
        int any = x.any(1);
        int four = chain(x, any, 4);
        int twelve = chain(x, four, 8);
        int one = x.made(1, any, x.any(0));
        int two = x.made(1, any, x.number(2));
        x.begin(1);
        Check.due("12", x.clause(twelve), true);
        Check.due("24", x.clause(twelve), false);
        Check.due("36", x.clause(twelve), false);
        Check.full(x, "48", () -> x.clause(twelve));
        Check.bad(x, "48 of no PATTERN", () -> x.clause(-1));
        Check.due("38", x.clause(two), true);
        Check.full(x, "42", () -> x.clause(four));
        Check.due("40", x.clause(two), false);
        Check.full(x, "41", () -> x.clause(one));
        Check.due("ANY adds nothing", x.clause(any), true);
        Check.due("nor the 7th", x.clause(any), false);
        x.begin(1);
        Check.due("begin makes room again", x.clause(twelve), true);
    }

    private static int chain(ClauseGlass x, int below, int more) {
        int p = below;
        for (int i = 0; i < more; i++) {
            p = x.made(0, p, 0);
        }
        return p;
    }

    private static void intsAreNeverUsedUp() {
        ClauseGlass x = new ClauseGlass();
        Check.due("clause", x.clause(x.number(Integer.MAX_VALUE)), true);
        Check.due("clause", x.clause(x.number(Integer.MIN_VALUE)), true);
        Check.due("the same int", x.clause(x.number(Integer.MAX_VALUE)), false);
        Check.due("open", x.open(), true);
        Check.due("the rest", x.clause(x.any(0)), true);
        Check.due("closed", x.open(), false);
        Check.due("nothing behind it", x.clause(x.number(0)), false);
        Check.due("takes(0)", x.takes(0), true);
        Check.due("takes(2)", x.takes(2), false);
        Check.due("takes(3)", x.takes(3), true);
        Check.due("takes(4)", x.takes(4), false);
    }

    private static void firstOneTakes() {
        ClauseGlass x = new ClauseGlass();
        x.sort();
        x.con(1, 0, 0, 0);
        x.con(1, 0, 0, 0);
        int no = x.made(0, 0, 0);
        int any = x.any(1);
        x.begin(1);
        Check.due("ANY first", x.clause(any), true);
        Check.due("a CON behind it", x.clause(no), false);
        x.begin(1);
        Check.due("the CON first", x.clause(no), true);
        Check.due("ANY behind it", x.clause(any), true);
        Check.due("takes(0) is not changed by what follows", x.takes(0), true);
        Check.due("closed", x.open(), false);
    }

    private static void deadSorts() {
        ClauseGlass x = new ClauseGlass();
        x.sort();
        int any = x.any(1);
        x.begin(1);
        Check.due("no VALUE is left", x.open(), false);
        Check.due("ANY of a dead SORT takes none", x.clause(any), false);
        Check.due("still none left", x.open(), false);
        x.con(1, 0, 0, 0);
        Check.due("ANY takes one now", x.takes(0), true);
    }

    private static void deadParts() {
        ClauseGlass x = new ClauseGlass();
        x.sort();
        x.sort();
        int good = x.con(1, 1, 0, 0);
        int dead = x.con(1, 2, 0, 2);
        int anyInt = x.any(0);
        int any2 = x.any(2);
        int goodOne = x.made(good, anyInt, 0);
        int deadOne = x.made(dead, anyInt, any2);
        x.begin(1);
        Check.due("a CON with a dead PART takes none", x.clause(deadOne), false);
        Check.due("open", x.open(), true);
        Check.due("the living CON", x.clause(goodOne), true);
        Check.due("none of the dead CON is left", x.open(), false);
        x.con(2, 0, 0, 0);
        Check.due("now it takes some", x.takes(0), true);
        Check.due("and all are taken", x.open(), false);
    }

    private static void endlessValuesAreTaken() {
        ClauseGlass x = new ClauseGlass();
        x.sort();
        int c = x.con(1, 1, 1, 0);
        int p = x.any(1);
        for (int i = 0; i < 12; i++) {
            p = x.made(c, p, 0);
        }
        x.begin(1);
        Check.due("the one endless VALUE", x.clause(p), true);
        Check.due("is all there is", x.open(), false);
        Check.due("and is taken", x.clause(0), false);
        x.con(1, 0, 0, 0);
        Check.due("an end more", x.open(), false);
        Check.due("goes to the ANY", x.takes(1), true);
        x.begin(1);
        x.clause(p);
        Check.due("or is left", x.open(), true);
    }

    private static void answersFollowSortsAndCons() {
        ClauseGlass x = new ClauseGlass();
        x.sort();
        x.con(1, 0, 0, 0);
        int only = x.made(0, 0, 0);
        int any = x.any(1);
        x.begin(1);
        x.clause(only);
        Check.due("ANY behind the only CON", x.clause(any), false);
        Check.due("count(4)", x.count(4), 1);
        x.con(1, 0, 0, 0);
        Check.due("takes(1) with a CON more", x.takes(1), true);
        Check.due("count(4) with a CON more", x.count(4), 2);
        x.begin(1);
        x.clause(only);
        Check.due("open with a CON more", x.open(), true);
    }

    /** Pairs of bits: each CLAUSE alone leaves part of the last one, together they don't. */
    private static void reachedByWhatIsLeftTogether() {
        ClauseGlass x = new ClauseGlass();
        x.sort();
        x.sort();
        int no = x.made(x.con(1, 0, 0, 0), 0, 0);
        int yes = x.made(x.con(1, 0, 0, 0), 0, 0);
        int any = x.any(1);
        int both = x.con(2, 2, 1, 1);
        x.begin(2);
        Check.due("no, any", x.clause(x.made(both, no, any)), true);
        Check.due("any, no", x.clause(x.made(both, any, no)), true);
        Check.due("open", x.open(), true);
        Check.due("any, any takes yes, yes", x.clause(x.made(both, any, any)), true);
        Check.due("closed", x.open(), false);
        Check.due("yes, yes is taken", x.clause(x.made(both, yes, yes)), false);
        x.begin(2);
        Check.due("yes, no", x.clause(x.made(both, yes, no)), true);
        Check.due("no, any", x.clause(x.made(both, no, any)), true);
        Check.due("any, no is taken by both", x.clause(x.made(both, any, no)), false);
        Check.due("yes, any", x.clause(x.made(both, yes, any)), true);
        Check.due("closed", x.open(), false);
    }
}
