/** Promises 4 (any), 5 (number) and 6 (made). */
final class PatternsTest {
    public static void main(String[] args) {
        anysAndNumbers();
        partsMustFit();
        sizesUpToTheMost();
        patternsUpToTheMost();
        Check.finish();
    }

    private static void anysAndNumbers() {
        ClauseGlass x = new ClauseGlass();
        x.sort();
        Check.due("any(0)", x.any(0), 0);
        Check.due("any(1)", x.any(1), 1);
        Check.due("any(1) again", x.any(1), 2);
        Check.due("number(5)", x.number(5), 3);
        Check.due("number of the least int", x.number(Integer.MIN_VALUE), 4);
        Check.due("number of the greatest int", x.number(Integer.MAX_VALUE), 5);
        Check.due("count(2)", x.count(2), 6);
        Check.bad(x, "any(2)", () -> x.any(2));
        Check.bad(x, "any(-1)", () -> x.any(-1));
        Check.due("a NUMBER is that int", x.covers(3, x.number(5)), true);
        Check.due("a NUMBER is no other int", x.covers(3, 4), false);
        Check.due("a NUMBER is of SORT 0", x.covers(0, 3), true);
        Check.due("each int fits ANY of SORT 0", x.covers(0, 5), true);
        Check.bad(x, "ANY of SORT 1 is not of SORT 0", () -> x.covers(0, 1));
    }

    private static void partsMustFit() {
        ClauseGlass x = new ClauseGlass();
        x.sort();
        x.sort();
        x.con(1, 0, 0, 0);
        x.con(1, 1, 2, 0);
        x.con(2, 2, 0, 1);
        int anyInt = x.any(0);
        int any1 = x.any(1);
        int any2 = x.any(2);
        Check.bad(x, "made of no CON", () -> x.made(3, 0, 0));
        Check.bad(x, "made of CON -1", () -> x.made(-1, 0, 0));
        Check.bad(x, "made with no PATTERN", () -> x.made(1, 3, 0));
        Check.bad(x, "made with PATTERN -1", () -> x.made(1, -1, 0));
        Check.bad(x, "made with p of another SORT", () -> x.made(1, any1, 0));
        Check.bad(x, "made with q of another SORT", () -> x.made(2, anyInt, any2));
        Check.bad(x, "made with q no PATTERN", () -> x.made(2, anyInt, 3));
        Check.bad(x, "made with q PATTERN -1", () -> x.made(2, anyInt, -1));
        Check.bad(x, "made with p no PATTERN", () -> x.made(2, 3, any1));
        int leaf = x.made(0, -4, 1000);
        int twig = x.made(2, anyInt, leaf);
        Check.due("leaf", leaf, 3);
        Check.due("twig", twig, 4);
        Check.due("branch", x.made(1, twig, Integer.MAX_VALUE), 5);
        Check.due("a CON's PATTERN is of its SORT", x.covers(any1, 5), true);
        Check.bad(x, "and of no other", () -> x.covers(any2, 5));
    }

    private static void sizesUpToTheMost() {
        ClauseGlass x = new ClauseGlass();
        x.sort();
        x.con(1, 1, 1, 0);
        x.con(1, 2, 0, 1);
        int chain = x.any(1);
        for (int size = 1; size <= 12; size++) {
            chain = x.made(0, chain, 0);
        }
        int twelve = chain;
        Check.due("a chain of 12 CONS", twelve, 12);
        Check.full(x, "a chain of 13 CONS", () -> x.made(0, twelve, 0));
        int number = x.number(1);
        int anyInt = x.any(0);
        Check.due("ANY does not count", x.made(1, anyInt, 11) > 0, true);
        Check.full(x, "a NUMBER does", () -> x.made(1, number, 11));
        Check.due("up to 12", x.made(1, number, 10) > 0, true);
        Check.full(x, "PATTERNS of 12 CONS with one more", () -> x.made(1, anyInt, twelve));
        Check.bad(x, "Bad before FULL", () -> x.made(1, twelve, twelve));
        partsThatItHasNotDoNotCount(x, twelve);
    }

    private static void partsThatItHasNotDoNotCount(ClauseGlass x, int big) {
        int c = x.con(1, 0, 0, 0);
        Check.due("PARTS that a CON hasn't are not counted", x.made(c, big, big) > 0, true);
        Check.due("the second neither", x.made(0, 0, big) > 0, true);
    }

    private static void patternsUpToTheMost() {
        ClauseGlass x = new ClauseGlass();
        x.sort();
        x.con(1, 0, 0, 0);
        x.con(1, 1, 1, 0);
        for (int p = 0; p < 200; p++) {
            int got = p % 3 == 0 ? x.any(p % 2) : p % 3 == 1 ? x.number(p) : x.made(0, p, p);
            Check.due("PATTERN", got, p);
        }
        Check.full(x, "any the 201st", () -> x.any(0));
        Check.full(x, "number the 201st", () -> x.number(0));
        Check.full(x, "made the 201st", () -> x.made(0, 0, 0));
        Check.bad(x, "any the 201st of no SORT", () -> x.any(2));
        Check.bad(x, "made the 201st of no CON", () -> x.made(2, 0, 0));
        Check.bad(x, "made the 201st of no PATTERN", () -> x.made(1, 200, 0));
        Check.bad(x, "made the 201st of another SORT", () -> x.made(1, 0, 0));
        x.begin(0);
        Check.due("the last PATTERN but one is of use", x.clause(199 / 3 * 3 + 1), true);
        Check.bad(x, "clause of PATTERN 200", () -> x.clause(200));
    }
}
