import java.util.ArrayList;
import java.util.Collections;
import java.util.List;
import java.util.Random;

/** Runs of 512 calls, ordinary and wrong ones mixed, each answer compared with PlainGlass. */
final class RandomRunsTest {
    private static final int CALLS = 512;

    private final int seed;
    private final Random random;
    private final ClauseGlass x = new ClauseGlass();
    private final PlainGlass plain = new PlainGlass();
    private int calls = 0;

    private RandomRunsTest(int seed) {
        this.seed = seed;
        // Seeds one beside another begin alike, so they are taken apart first.
        random = new Random(seed * 0x9E3779B97F4A7C15L);
    }

    public static void main(String[] args) {
        int runs = args.length > 0 ? Integer.parseInt(args[0]) : 500;
        for (int seed = 1; seed <= runs; seed++) {
            new RandomRunsTest(seed).run();
        }
        Check.finish();
    }

    private void run() {
        makeWorld();
        while (calls < CALLS) {
            switch (random.nextInt(4)) {
                case 0 -> clausesThatSplitASort();
                case 1 -> clausesOfAnyPatterns();
                case 2 -> pairs();
                default -> anyCall();
            }
        }
    }

    /** Few CONS a SORT, for the CLAUSES to have a chance to take all VALUES. */
    private void makeWorld() {
        int sorts = 1 + random.nextInt(random.nextInt(8) == 0 ? 14 : 4);
        for (int s = 0; s < sorts; s++) {
            call("sort");
        }
        int cons = random.nextInt(8) == 0 ? 33 : sorts + random.nextInt(2 * sorts + 1);
        for (int c = 0; c < cons; c++) {
            int parts = random.nextInt(8) == 0 ? 0 : random.nextInt(3);
            call("con", 1 + random.nextInt(sorts), parts, random.nextInt(sorts + 1), random.nextInt(sorts + 1));
        }
    }

    private void clausesThatSplitASort() {
        int s = random.nextInt(plain.count(0));
        call("begin", s);
        List<Tree> all = new ArrayList<>(List.of(new Tree(s)));
        for (int step = 0; step < 12; step++) {
            Tree one = all.remove(random.nextInt(all.size()));
            List<Tree> split = split(one);
            if (split.isEmpty() || all.size() + split.size() > 9) {
                all.add(one);
            } else {
                all.addAll(split);
            }
        }
        Collections.shuffle(all, random);
        for (Tree tree : all) {
            call("clause", build(random.nextInt(6) == 0 ? loosened(tree) : tree));
            if (random.nextInt(3) == 0) {
                call("open");
            }
        }
        askClauses();
    }

    private void clausesOfAnyPatterns() {
        int s = random.nextInt(plain.count(0));
        call("begin", s);
        for (int i = 0; i < 9; i++) {
            int p = patternOf(s);
            if (p >= 0) {
                call("clause", p);
            }
        }
        askClauses();
    }

    private void askClauses() {
        call("open");
        call("count", 4);
        call("takes", random.nextInt(9));
        if (random.nextInt(3) == 0) {
            call("con", pick(12), random.nextInt(3), pick(12), pick(12));
            call("open");
            call("count", 4);
        }
    }

    private void pairs() {
        for (int i = 0; i < 6; i++) {
            int p = pick(plain.count(2));
            boolean there = p >= 0 && p < plain.count(2);
            int q = there ? patternOf(plain.sortOfPattern(p)) : 0;
            call("covers", p, q);
            call("covers", q, p);
            call("meets", p, q);
        }
    }

    private void anyCall() {
        int n = plain.count(2);
        switch (random.nextInt(13)) {
            case 0 -> call("sort");
            case 1 -> call("con", pick(12), pick(3), pick(12), pick(12));
            case 2 -> call("any", pick(plain.count(0)));
            case 3 -> call("number", random.nextBoolean() ? random.nextInt(3) : random.nextInt());
            case 4, 5 -> madeOfAnything();
            case 6 -> call("begin", pick(plain.count(0)));
            case 7 -> call("clause", pick(n));
            case 8 -> call("takes", pick(plain.count(3)));
            case 9 -> call("covers", pick(n), pick(n));
            case 10 -> call("meets", pick(n), pick(n));
            case 11 -> call("lives", pick(plain.count(0)));
            default -> call("count", pick(6));
        }
    }

    private void madeOfAnything() {
        int c = pick(plain.count(1));
        boolean there = c >= 0 && c < plain.count(1);
        int p = pick(plain.count(2));
        int q = pick(plain.count(2));
        if (there && random.nextInt(8) != 0) {
            List<Integer> parts = plain.partsOfCon(c);
            p = parts.size() > 0 ? patternOf(parts.get(0)) : p;
            q = parts.size() > 1 ? patternOf(parts.get(1)) : q;
        }
        call("made", c, p, q);
    }

    /** Mostly a number that is there, now and then one at the edge or far out. */
    private int pick(int bound) {
        int luck = random.nextInt(20);
        if (luck == 0) {
            return bound;
        }
        if (luck == 1) {
            return random.nextBoolean() ? -1 : random.nextInt();
        }
        return random.nextInt(Math.max(1, bound));
    }

    /** A PATTERN of that SORT, or -1; larger ones are looked for. */
    private int patternOf(int sort) {
        int best = -1;
        for (int tries = 0; tries < 40 && plain.count(2) > 0; tries++) {
            int p = random.nextInt(plain.count(2));
            boolean fits = plain.sortOfPattern(p) == sort;
            if (fits && (best < 0 || random.nextInt(4) != 0 && plain.sizeOfPattern(p) > plain.sizeOfPattern(best))) {
                best = p;
            }
        }
        return best;
    }

    private long call(String name, int... a) {
        if (calls == CALLS) {
            return -1;
        }
        calls++;
        String want = Check.answer(() -> callPlain(name, a));
        FaceCall call = new FaceCall(name, a);
        Check.due("seed " + seed + ", call " + calls + ": " + call, call.answerOf(x), want);
        return want.startsWith("throws.") ? -1 : Long.parseLong(want);
    }

    private long callPlain(String name, int[] a) {
        switch (name) {
            case "sort": return plain.sort();
            case "con": return plain.con(a[0], a[1], a[2], a[3]);
            case "any": return plain.any(a[0]);
            case "number": return plain.number(a[0]);
            case "made": return plain.made(a[0], a[1], a[2]);
            case "begin": return plain.begin(a[0]);
            case "clause": return plain.clause(a[0]) ? 1 : 0;
            case "takes": return plain.takes(a[0]) ? 1 : 0;
            case "open": return plain.open() ? 1 : 0;
            case "covers": return plain.covers(a[0], a[1]) ? 1 : 0;
            case "meets": return plain.meets(a[0], a[1]) ? 1 : 0;
            case "lives": return plain.lives(a[0]) ? 1 : 0;
            default: return plain.count(a[0]);
        }
    }

    /** A PATTERN that is still to be made: ANY (no con, no number), a number or a CON. */
    private static final class Tree {
        final int sort;
        int con = -1;
        Integer number = null;
        final List<Tree> parts = new ArrayList<>();

        Tree(int sort) {
            this.sort = sort;
        }

        Tree copy() {
            Tree same = new Tree(sort);
            same.con = con;
            same.number = number;
            for (Tree part : parts) {
                same.parts.add(part.copy());
            }
            return same;
        }

        void addAnys(List<Tree> found) {
            if (con < 0 && number == null) {
                found.add(this);
            }
            for (Tree part : parts) {
                part.addAnys(found);
            }
        }
    }

    /** The same tree with one of its ANYs split into all that it can be. */
    private List<Tree> split(Tree tree) {
        List<Tree> anys = new ArrayList<>();
        tree.addAnys(anys);
        if (anys.isEmpty()) {
            return List.of();
        }
        int which = random.nextInt(anys.size());
        List<Tree> found = new ArrayList<>();
        int sort = anys.get(which).sort;
        if (sort == 0) {
            found.add(tree.copy());
            Tree withNumber = tree.copy();
            anyAt(withNumber, which).number = random.nextInt(2);
            found.add(withNumber);
            return found;
        }
        for (int c = 0; c < plain.count(1); c++) {
            if (plain.sortOfCon(c) == sort) {
                Tree withCon = tree.copy();
                Tree at = anyAt(withCon, which);
                at.con = c;
                for (int part : plain.partsOfCon(c)) {
                    at.parts.add(new Tree(part));
                }
                found.add(withCon);
            }
        }
        return found;
    }

    private static Tree anyAt(Tree tree, int which) {
        List<Tree> anys = new ArrayList<>();
        tree.addAnys(anys);
        return anys.get(which);
    }

    /** The same tree with ANY in the place of one below it. */
    private Tree loosened(Tree tree) {
        Tree same = tree.copy();
        Tree at = same;
        while (!at.parts.isEmpty()) {
            int i = random.nextInt(at.parts.size());
            if (random.nextBoolean() || at.parts.get(i).parts.isEmpty()) {
                at.parts.set(i, new Tree(at.parts.get(i).sort));
                return same;
            }
            at = at.parts.get(i);
        }
        return same;
    }

    private int build(Tree tree) {
        if (tree.number != null) {
            return (int) call("number", tree.number);
        }
        if (tree.con < 0) {
            return anyOf(tree.sort);
        }
        int p = tree.parts.size() > 0 ? build(tree.parts.get(0)) : -1;
        int q = tree.parts.size() > 1 ? build(tree.parts.get(1)) : -1;
        return (int) call("made", tree.con, p, q);
    }

    private int anyOf(int sort) {
        for (int p = 0; p < plain.count(2); p++) {
            if (plain.sortOfPattern(p) == sort && plain.sizeOfPattern(p) == 0) {
                return p;
            }
        }
        return (int) call("any", sort);
    }
}
