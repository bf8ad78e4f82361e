/** Promises 1 (a new object), 2 (sort), 3 (con) and 13 (lives). */
final class SortsTest {
    public static void main(String[] args) {
        aNewObject();
        sortsUpToTheMost();
        consAndTheirParts();
        badCons();
        consUpToTheMost();
        livesOrNot();
        endlessValuesLive();
        deathSpreadsAndIsMended();
        deadCyclesThroughTwoSorts();
        Check.finish();
    }

    private static void aNewObject() {
        ClauseGlass x = new ClauseGlass();
        Check.due("new: state", Check.state(x), "1 0 0 0 0 1 true true");
        Check.bad(x, "new: any(1)", () -> x.any(1));
        Check.bad(x, "new: made(0, 0, 0)", () -> x.made(0, 0, 0));
        Check.bad(x, "new: clause(0)", () -> x.clause(0));
        Check.bad(x, "new: takes(0)", () -> x.takes(0));
        Check.bad(x, "new: covers(0, 0)", () -> x.covers(0, 0));
        Check.bad(x, "new: meets(0, 0)", () -> x.meets(0, 0));
        Check.due("new: number(7)", x.number(7), 0);
        Check.due("new: the CLAUSES are of SORT 0", x.clause(0), true);
        ClauseGlass y = new ClauseGlass();
        Check.due("another new object", Check.state(y), "1 0 0 0 0 1 true true");
    }

    private static void sortsUpToTheMost() {
        ClauseGlass x = new ClauseGlass();
        for (int s = 1; s <= 11; s++) {
            Check.due("sort()", x.sort(), s);
            Check.due("count(0)", x.count(0), s + 1);
            Check.due("a SORT without CONS lives", x.lives(s), false);
        }
        Check.full(x, "sort() the 13th", () -> x.sort());
        Check.full(x, "sort() the 13th again", () -> x.sort());
        Check.due("con of the last SORT", x.con(11, 1, 11, -7), 0);
    }

    private static void consAndTheirParts() {
        ClauseGlass x = new ClauseGlass();
        x.sort();
        Check.due("con without PARTS", x.con(1, 0, -5, 77), 0);
        Check.due("con with one PART", x.con(1, 1, 0, Integer.MIN_VALUE), 1);
        Check.due("con with two PARTS", x.con(1, 2, 0, 1), 2);
        Check.due("count(1)", x.count(1), 3);
        int number = x.number(3);
        int any = x.any(1);
        Check.due("made of no PARTS", x.made(0, -1, 99), 2);
        Check.due("made of one PART", x.made(1, number, 99), 3);
        Check.due("made of two PARTS", x.made(2, number, any), 4);
        Check.bad(x, "PARTS the other way round", () -> x.made(2, any, number));
    }

    private static void badCons() {
        ClauseGlass x = new ClauseGlass();
        x.sort();
        Check.bad(x, "con of SORT 0", () -> x.con(0, 0, 0, 0));
        Check.bad(x, "con of SORT 2", () -> x.con(2, 0, 0, 0));
        Check.bad(x, "con of SORT -1", () -> x.con(-1, 0, 0, 0));
        Check.bad(x, "con with -1 PARTS", () -> x.con(1, -1, 0, 0));
        Check.bad(x, "con with 3 PARTS", () -> x.con(1, 3, 0, 0));
        Check.bad(x, "con with a of no SORT", () -> x.con(1, 1, 2, 0));
        Check.bad(x, "con with a of SORT -1", () -> x.con(1, 1, -1, 0));
        Check.bad(x, "con with a of no SORT, two PARTS", () -> x.con(1, 2, 2, 0));
        Check.bad(x, "con with b of no SORT", () -> x.con(1, 2, 0, 2));
        Check.bad(x, "con with b of SORT -1", () -> x.con(1, 2, 0, -1));
        Check.due("con after all that", x.con(1, 0, 0, 0), 0);
    }

    private static void consUpToTheMost() {
        ClauseGlass x = new ClauseGlass();
        x.sort();
        x.sort();
        for (int c = 0; c < 30; c++) {
            Check.due("con", x.con(1 + c % 2, c % 3, 1, 0), c);
        }
        Check.full(x, "con the 31st", () -> x.con(1, 0, 0, 0));
        Check.bad(x, "con the 31st, of SORT 0", () -> x.con(0, 0, 0, 0));
        Check.bad(x, "con the 31st, with 3 PARTS", () -> x.con(1, 3, 0, 0));
        Check.bad(x, "con the 31st, with b of no SORT", () -> x.con(1, 2, 0, 3));
        x.any(1);
        x.any(0);
        Check.due("made with the last CON", x.made(29, 0, 1), 2);
        Check.bad(x, "made with CON 30", () -> x.made(30, 0, 0));
    }

    private static void livesOrNot() {
        ClauseGlass x = new ClauseGlass();
        Check.due("lives(0)", x.lives(0), true);
        Check.bad(x, "lives(1)", () -> x.lives(1));
        Check.bad(x, "lives(-1)", () -> x.lives(-1));
        Check.bad(x, "lives(32)", () -> x.lives(32));
        x.sort();
        Check.due("lives without CONS", x.lives(1), false);
        x.con(1, 1, 0, 0);
        Check.due("lives by an int", x.lives(1), true);
    }

    private static void endlessValuesLive() {
        ClauseGlass x = new ClauseGlass();
        x.sort();
        x.con(1, 2, 1, 1);
        Check.due("lives by endless trees of itself", x.lives(1), true);
        x.sort();
        x.sort();
        x.con(2, 1, 3, 0);
        Check.due("2 waits for 3", x.lives(2), false);
        x.con(3, 2, 2, 1);
        Check.due("2 lives by 3 and itself", x.lives(2), true);
        Check.due("3 lives by 2 and itself", x.lives(3), true);
        Check.due("count(5)", x.count(5), 4);
    }

    private static void deathSpreadsAndIsMended() {
        ClauseGlass x = new ClauseGlass();
        for (int s = 1; s <= 11; s++) {
            x.sort();
        }
        for (int s = 1; s <= 10; s++) {
            x.con(s, 1, s + 1, 0);
        }
        for (int s = 1; s <= 11; s++) {
            Check.due("a long chain to a dead end: lives(" + s + ")", x.lives(s), false);
        }
        Check.due("count(5) of the chain", x.count(5), 1);
        x.con(4, 0, 0, 0);
        Check.due("count(5) mended at 4", x.count(5), 5);
        Check.due("lives(1) mended at 4", x.lives(1), true);
        Check.due("lives(5) mended at 4", x.lives(5), false);
        x.con(11, 1, 11, 0);
        Check.due("count(5) mended at 11", x.count(5), 12);
    }

    private static void deadCyclesThroughTwoSorts() {
        ClauseGlass x = new ClauseGlass();
        x.sort();
        x.sort();
        x.sort();
        x.con(1, 2, 2, 3);
        x.con(2, 1, 1, 0);
        Check.due("a ring with a dead PART: lives(1)", x.lives(1), false);
        Check.due("a ring with a dead PART: lives(2)", x.lives(2), false);
        x.con(3, 0, 0, 0);
        Check.due("the ring lives", x.lives(1) && x.lives(2), true);
    }
}
