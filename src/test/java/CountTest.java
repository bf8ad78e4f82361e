/** Promise 14 (count). */
final class CountTest {
    public static void main(String[] args) {
        ClauseGlass x = new ClauseGlass();
        due(x, 1, 0, 0, 0, 0, 1);
        x.sort();
        due(x, 2, 0, 0, 0, 0, 1);
        int c = x.con(1, 0, 0, 0);
        due(x, 2, 1, 0, 0, 0, 2);
        int leaf = x.made(c, 0, 0);
        int any = x.any(1);
        due(x, 2, 1, 2, 0, 0, 2);
        x.begin(1);
        x.clause(leaf);
        due(x, 2, 1, 2, 1, 1, 2);
        x.clause(any);
        due(x, 2, 1, 2, 2, 1, 2);
        x.sort();
        x.con(1, 1, 2, 0);
        due(x, 3, 2, 2, 2, 1, 2);
        x.con(2, 1, 2, 0);
        due(x, 3, 3, 2, 2, 2, 3);
        x.clause(any);
        due(x, 3, 3, 2, 3, 2, 3);
        x.begin(0);
        due(x, 3, 3, 2, 0, 0, 3);
        Check.finish();
    }

    private static void due(ClauseGlass x, int... want) {
        for (int what = 0; what < want.length; what++) {
            Check.due("count(" + what + ")", x.count(what), want[what]);
        }
        int[] others = {-1, 6, 7, 100, Integer.MIN_VALUE, Integer.MAX_VALUE};
        for (int what : others) {
            Check.due("count(" + what + ")", x.count(what), -1);
        }
    }
}
