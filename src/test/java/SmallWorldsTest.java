import java.util.ArrayList;
import java.util.List;
import java.util.Random;

/**
 * Promises 8 to 13 by their letter: in small worlds all VALUES are written down as far as PATTERNS
 * look, each is tried on each PATTERN, and what they show is compared with the answers.
 */
final class SmallWorldsTest {
    private static final int REACH = 3;
    private static final int MOST_VALUES = 2000;
    private static final int[] INTS = {0, 1, 2, 77};

    /** An int, a CON with VALUES below, or (neither) some living VALUE beyond the reach of PATTERNS. */
    private record Value(int sort, Integer number, int con, List<Value> parts) { }

    private record Pattern(int id, int sort, Integer number, int con, List<Pattern> parts) { }

    private record Con(int sort, List<Integer> parts) { }

    private static final class TooMany extends Exception {
        private static final long serialVersionUID = 1L;
    }

    private final String name;
    private final Random random;
    private final ClauseGlass x = new ClauseGlass();
    private int sorts = 1;
    private final List<Con> cons = new ArrayList<>();

    private SmallWorldsTest(int seed) {
        name = "world " + seed + ": ";
        random = new Random(seed * 0x9E3779B97F4A7C15L);
    }

    public static void main(String[] args) {
        int tried = 0;
        for (int seed = 1; seed <= 4000; seed++) {
            try {
                new SmallWorldsTest(seed).run();
                tried++;
            } catch (TooMany e) {
                // This world is not small: the next one.
            }
        }
        Check.due("enough small worlds", tried > 1000, true);
        Check.finish();
    }

    private void run() throws TooMany {
        makeWorld();
        for (int s = 0; s < sorts; s++) {
            Check.due(name + "lives(" + s + ")", x.lives(s), isLiving(s));
        }
        int s = random.nextInt(sorts);
        List<Value> values = values(s, REACH);
        List<Pattern> clauses = new ArrayList<>();
        x.begin(s);
        for (int k = 0; k < 8; k++) {
            Pattern added = pattern(s, REACH);
            clauses.add(added);
            Check.due(name + "clause " + k, x.clause(added.id), taken(values, clauses, k) > 0);
        }
        int reached = 0;
        for (int k = 0; k < 8; k++) {
            boolean takes = taken(values, clauses, k) > 0;
            reached += takes ? 1 : 0;
            Check.due(name + "takes(" + k + ")", x.takes(k), takes);
        }
        Check.due(name + "count(4)", x.count(4), reached);
        Check.due(name + "open()", x.open(), taken(values, clauses, -1) > 0);
        for (Pattern p : clauses) {
            for (Pattern q : clauses) {
                pair(values, p, q);
            }
        }
    }

    private void pair(List<Value> values, Pattern p, Pattern q) {
        boolean covers = true;
        boolean meets = false;
        for (Value value : values) {
            covers &= !fits(value, q) || fits(value, p);
            meets |= fits(value, p) && fits(value, q);
        }
        Check.due(name + "covers", x.covers(p.id, q.id), covers);
        Check.due(name + "meets", x.meets(p.id, q.id), meets);
    }

    private void makeWorld() {
        int more = 1 + random.nextInt(3);
        for (int i = 0; i < more; i++) {
            sorts = x.sort() + 1;
        }
        int most = more + random.nextInt(2 * more + 1);
        for (int c = 0; c < most; c++) {
            int s = 1 + random.nextInt(more);
            List<Integer> parts = new ArrayList<>();
            for (int i = random.nextInt(3); i > 0; i--) {
                parts.add(random.nextInt(sorts));
            }
            int a = parts.size() > 0 ? parts.get(0) : -1;
            int b = parts.size() > 1 ? parts.get(1) : -1;
            x.con(s, parts.size(), a, b);
            cons.add(new Con(s, parts));
        }
    }

    /** A tree higher than there are SORTS has one of them twice on its way: it can go on for ever. */
    private boolean isLiving(int sort) {
        return reachesHeight(sort, sorts + 1);
    }

    private boolean reachesHeight(int sort, int height) {
        if (sort == 0 || height == 0) {
            return true;
        }
        for (Con con : cons) {
            boolean all = con.sort == sort;
            for (int i = 0; all && i < con.parts.size(); i++) {
                all = reachesHeight(con.parts.get(i), height - 1);
            }
            if (all) {
                return true;
            }
        }
        return false;
    }

    private List<Value> values(int sort, int height) throws TooMany {
        List<Value> found = new ArrayList<>();
        if (height == 0) {
            if (isLiving(sort)) {
                found.add(new Value(sort, null, -1, List.of()));
            }
            return found;
        }
        if (sort == 0) {
            for (int v : INTS) {
                found.add(new Value(0, v, -1, List.of()));
            }
            return found;
        }
        for (int c = 0; c < cons.size(); c++) {
            if (cons.get(c).sort == sort) {
                addValuesOf(c, height, found);
            }
        }
        return found;
    }

    private void addValuesOf(int c, int height, List<Value> found) throws TooMany {
        List<List<Value>> rows = new ArrayList<>(List.of(List.of()));
        for (int part : cons.get(c).parts) {
            List<List<Value>> longer = new ArrayList<>();
            for (Value value : values(part, height - 1)) {
                for (List<Value> row : rows) {
                    List<Value> more = new ArrayList<>(row);
                    more.add(value);
                    longer.add(more);
                }
            }
            rows = longer;
        }
        for (List<Value> row : rows) {
            found.add(new Value(cons.get(c).sort, null, c, row));
        }
        if (found.size() > MOST_VALUES) {
            throw new TooMany();
        }
    }

    private Pattern pattern(int sort, int height) {
        boolean wantsAny = height == 0 || random.nextInt(height == REACH ? 8 : 3) == 0;
        if (!wantsAny && sort == 0) {
            int v = random.nextInt(3);
            return new Pattern(x.number(v), 0, v, -1, List.of());
        }
        int c = cons.isEmpty() ? -1 : random.nextInt(cons.size());
        for (int tries = 0; tries < 10 && c >= 0 && cons.get(c).sort != sort; tries++) {
            c = random.nextInt(cons.size());
        }
        if (wantsAny || c < 0 || cons.get(c).sort != sort) {
            return new Pattern(x.any(sort), sort, null, -1, List.of());
        }
        // Short ones: eight CLAUSES have room for 40 CONS and NUMBERS.
        List<Pattern> parts = new ArrayList<>();
        for (int part : cons.get(c).parts) {
            boolean small = parts.size() == 1 && parts.get(0).con >= 0;
            parts.add(pattern(part, small ? Math.min(1, height - 1) : height - 1));
        }
        int p = parts.size() > 0 ? parts.get(0).id : -1;
        int q = parts.size() > 1 ? parts.get(1).id : -1;
        return new Pattern(x.made(c, p, q), sort, null, c, parts);
    }

    private static boolean fits(Value value, Pattern pattern) {
        if (pattern.number != null) {
            return pattern.number.equals(value.number);
        }
        if (pattern.con < 0) {
            return true;
        }
        boolean all = pattern.con == value.con;
        for (int i = 0; all && i < pattern.parts.size(); i++) {
            all = fits(value.parts.get(i), pattern.parts.get(i));
        }
        return all;
    }

    /** How many VALUES fit CLAUSE k first (-1: none of them). */
    private static int taken(List<Value> values, List<Pattern> clauses, int k) {
        int found = 0;
        for (Value value : values) {
            int first = -1;
            for (int i = clauses.size() - 1; i >= 0; i--) {
                first = fits(value, clauses.get(i)) ? i : first;
            }
            found += first == k ? 1 : 0;
        }
        return found;
    }
}
