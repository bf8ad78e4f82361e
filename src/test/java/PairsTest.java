/** Promises 11 (covers) and 12 (meets). */
final class PairsTest {
    public static void main(String[] args) {
        badPairs();
        ints();
        trees();
        withoutValues();
        onlyOneConLives();
        clausesAreLeftAlone();
        largest();
        Check.finish();
    }

    private static void pair(ClauseGlass x, int p, int q, boolean covers, boolean meets) {
        Check.due("covers(" + p + ", " + q + ")", x.covers(p, q), covers);
        Check.due("meets(" + p + ", " + q + ")", x.meets(p, q), meets);
        Check.due("meets(" + q + ", " + p + ")", x.meets(q, p), meets);
    }

    private static void badPairs() {
        ClauseGlass x = new ClauseGlass();
        x.sort();
        x.any(0);
        x.any(1);
        int[][] bad = {{0, 1}, {1, 0}, {0, 2}, {2, 0}, {0, -1}, {-1, 0}, {-1, -1}, {2, 2}};
        for (int[] b : bad) {
            Check.bad(x, "covers(" + b[0] + ", " + b[1] + ")", () -> x.covers(b[0], b[1]));
            Check.bad(x, "meets(" + b[0] + ", " + b[1] + ")", () -> x.meets(b[0], b[1]));
        }
    }

    private static void ints() {
        ClauseGlass x = new ClauseGlass();
        int any = x.any(0);
        int one = x.number(1);
        int two = x.number(2);
        int oneAgain = x.number(1);
        pair(x, any, any, true, true);
        pair(x, any, one, true, true);
        pair(x, one, any, false, true);
        pair(x, one, two, false, false);
        pair(x, one, oneAgain, true, true);
    }

    private static void trees() {
        ClauseGlass x = new ClauseGlass();
        x.sort();
        int end = x.con(1, 0, 0, 0);
        int link = x.con(1, 2, 0, 1);
        int any = x.any(1);
        int ends = x.made(end, 0, 0);
        int anyInt = x.any(0);
        int some = x.made(link, anyInt, any);
        int last = x.made(link, anyInt, ends);
        int five = x.made(link, x.number(5), any);
        int six = x.made(link, x.number(6), any);
        int lastFive = x.made(link, x.number(5), ends);
        pair(x, any, some, true, true);
        pair(x, some, any, false, true);
        pair(x, some, ends, false, false);
        pair(x, last, five, false, true);
        pair(x, five, last, false, true);
        pair(x, five, six, false, false);
        pair(x, five, lastFive, true, true);
        pair(x, last, lastFive, true, true);
        pair(x, lastFive, five, false, true);
        pair(x, lastFive, last, false, true);
    }

    /** All of no VALUES fit anything, and none fits two. */
    private static void withoutValues() {
        ClauseGlass x = new ClauseGlass();
        x.sort();
        x.sort();
        int dead = x.any(1);
        pair(x, dead, dead, true, false);
        int c = x.con(2, 1, 1, 0);
        int d = x.con(2, 0, 0, 0);
        int deadTree = x.made(c, dead, 0);
        int leaf = x.made(d, 0, 0);
        int any = x.any(2);
        pair(x, leaf, deadTree, true, false);
        pair(x, deadTree, leaf, false, false);
        pair(x, deadTree, deadTree, true, false);
        pair(x, any, deadTree, true, false);
        pair(x, deadTree, any, false, false);
        pair(x, leaf, any, true, true);
        x.con(1, 0, 0, 0);
        pair(x, leaf, deadTree, false, false);
        pair(x, deadTree, any, false, true);
        pair(x, leaf, any, false, true);
    }

    /** A PATTERN of CONS alone covers ANY where no other CON lives there. */
    private static void onlyOneConLives() {
        ClauseGlass x = new ClauseGlass();
        x.sort();
        x.sort();
        int only = x.con(1, 0, 0, 0);
        int box = x.con(2, 1, 1, 0);
        int any = x.any(2);
        int full = x.made(box, x.made(only, 0, 0), 0);
        int loose = x.made(box, x.any(1), 0);
        pair(x, full, any, true, true);
        pair(x, full, loose, true, true);
        x.con(1, 0, 0, 0);
        pair(x, full, any, false, true);
        pair(x, full, loose, false, true);
        pair(x, loose, any, true, true);
    }

    private static void clausesAreLeftAlone() {
        ClauseGlass x = new ClauseGlass();
        x.sort();
        x.con(1, 0, 0, 0);
        int one = x.number(1);
        int any = x.any(0);
        int tree = x.any(1);
        x.clause(one);
        x.clause(any);
        String before = Check.state(x);
        x.covers(tree, tree);
        x.meets(tree, tree);
        x.covers(one, any);
        Check.due("state after covers and meets", Check.state(x), before);
    }

    private static void largest() {
        ClauseGlass x = new ClauseGlass();
        x.sort();
        int end = x.con(1, 0, 0, 0);
        int link = x.con(1, 2, 1, 1);
        int left = x.made(end, 0, 0);
        int right = left;
        int open = x.any(1);
        int any = x.any(1);
        for (int i = 0; i < 11; i++) {
            left = x.made(link, left, any);
            right = x.made(link, any, right);
            open = x.made(link, any, open);
        }
        pair(x, left, right, false, true);
        pair(x, right, left, false, true);
        pair(x, open, right, true, true);
        pair(x, open, left, false, true);
        pair(x, x.made(link, any, open), right, false, false);
    }
}
