import java.util.ArrayList;
import java.util.Arrays;
import java.util.List;

/**
 * The document told a second time, for the tests to compare with: what is left of a PATTERN's VALUES
 * when those of others are taken away is kept as a list of shapes, and looked at for a living one.
 */
final class PlainGlass {
    /** VALUES: all of a SORT (but for some ints), one int, or a CON with shapes of its PARTS. */
    static final class Shape {
        final int sort;
        final int con;
        final Integer number;
        final List<Integer> but;
        final List<Shape> parts;

        private Shape(int sort, int con, Integer number, List<Integer> but, List<Shape> parts) {
            this.sort = sort;
            this.con = con;
            this.number = number;
            this.but = but;
            this.parts = parts;
        }

        static Shape any(int sort) {
            return new Shape(sort, -1, null, List.of(), List.of());
        }

        static Shape intsBut(List<Integer> but) {
            return new Shape(0, -1, null, but, List.of());
        }

        static Shape number(int v) {
            return new Shape(0, -1, v, List.of(), List.of());
        }

        static Shape made(int sort, int con, List<Shape> parts) {
            return new Shape(sort, con, null, List.of(), parts);
        }

        boolean isAny() {
            return con < 0 && number == null && but.isEmpty();
        }

        int size() {
            int size = con >= 0 || number != null ? 1 : 0;
            for (Shape part : parts) {
                size += part.size();
            }
            return size;
        }
    }

    private record Con(int sort, List<Integer> parts) { }

    private int sorts = 1;
    private final List<Con> cons = new ArrayList<>();
    private final List<Shape> patterns = new ArrayList<>();
    private int sortOfClauses = 0;
    private final List<Shape> clauses = new ArrayList<>();

    int sort() {
        full(sorts == 12);
        return sorts++;
    }

    int con(int s, int n, int a, int b) {
        bad(!isSort(s) || s == 0 || n < 0 || n > 2);
        bad(n >= 1 && !isSort(a) || n == 2 && !isSort(b));
        full(cons.size() == 30);
        cons.add(new Con(s, List.of(a, b).subList(0, n)));
        return cons.size() - 1;
    }

    int any(int s) {
        bad(!isSort(s));
        return add(Shape.any(s));
    }

    int number(int v) {
        return add(Shape.number(v));
    }

    int made(int c, int p, int q) {
        bad(c < 0 || c >= cons.size());
        List<Integer> given = List.of(p, q);
        List<Shape> parts = new ArrayList<>();
        for (int i = 0; i < cons.get(c).parts.size(); i++) {
            Shape part = pattern(given.get(i));
            bad(part.sort != cons.get(c).parts.get(i));
            parts.add(part);
        }
        return add(Shape.made(cons.get(c).sort, c, parts));
    }

    int begin(int s) {
        bad(!isSort(s));
        sortOfClauses = s;
        clauses.clear();
        return 0;
    }

    boolean clause(int p) {
        Shape added = pattern(p);
        bad(added.sort != sortOfClauses);
        int size = added.size();
        for (Shape clause : clauses) {
            size += clause.size();
        }
        full(clauses.size() == 8 || size > 40);
        clauses.add(added);
        return takes(clauses.size() - 1);
    }

    boolean takes(int k) {
        bad(k < 0 || k >= clauses.size());
        return leaves(clauses.get(k), clauses.subList(0, k));
    }

    boolean open() {
        return leaves(Shape.any(sortOfClauses), clauses);
    }

    boolean covers(int p, int q) {
        bad(pattern(p).sort != pattern(q).sort);
        return !leaves(pattern(q), List.of(pattern(p)));
    }

    boolean meets(int p, int q) {
        bad(pattern(p).sort != pattern(q).sort);
        return common(pattern(p), pattern(q));
    }

    boolean lives(int s) {
        bad(!isSort(s));
        // A tree as high as there are SORTS can be gone on with for ever: a SORT comes twice in it.
        return livesUpTo(s, sorts);
    }

    int count(int what) {
        int found = 0;
        switch (what) {
            case 0: return sorts;
            case 1: return cons.size();
            case 2: return patterns.size();
            case 3: return clauses.size();
            case 4:
                for (int k = 0; k < clauses.size(); k++) {
                    found += takes(k) ? 1 : 0;
                }
                return found;
            case 5:
                for (int s = 0; s < sorts; s++) {
                    found += lives(s) ? 1 : 0;
                }
                return found;
            default: return -1;
        }
    }

    int sortOfPattern(int p) {
        return patterns.get(p).sort;
    }

    int sizeOfPattern(int p) {
        return patterns.get(p).size();
    }

    int sortOfCon(int c) {
        return cons.get(c).sort;
    }

    List<Integer> partsOfCon(int c) {
        return cons.get(c).parts;
    }

    private int add(Shape pattern) {
        full(patterns.size() == 200 || pattern.size() > 12);
        patterns.add(pattern);
        return patterns.size() - 1;
    }

    private Shape pattern(int p) {
        bad(p < 0 || p >= patterns.size());
        return patterns.get(p);
    }

    private boolean isSort(int s) {
        return s >= 0 && s < sorts;
    }

    private boolean livesUpTo(int s, int height) {
        boolean[] lives = new boolean[sorts];
        Arrays.fill(lives, true);
        for (int h = 0; h < height; h++) {
            boolean[] higher = new boolean[sorts];
            higher[0] = true;
            for (Con con : cons) {
                boolean all = true;
                for (int part : con.parts) {
                    all &= lives[part];
                }
                higher[con.sort] |= all;
            }
            lives = higher;
        }
        return lives[s];
    }

    private boolean leaves(Shape from, List<Shape> taken) {
        List<Shape> left = living(List.of(from));
        for (Shape each : taken) {
            List<Shape> less = new ArrayList<>();
            for (Shape shape : left) {
                less.addAll(living(minus(shape, each)));
            }
            left = less;
        }
        return !left.isEmpty();
    }

    private List<Shape> living(List<Shape> shapes) {
        List<Shape> found = new ArrayList<>();
        for (Shape shape : shapes) {
            if (isLiving(shape)) {
                found.add(shape);
            }
        }
        return found;
    }

    private boolean isLiving(Shape shape) {
        if (shape.con < 0) {
            return lives(shape.sort);
        }
        for (Shape part : shape.parts) {
            if (!isLiving(part)) {
                return false;
            }
        }
        return true;
    }

    private boolean common(Shape one, Shape other) {
        if (one.isAny() || other.isAny()) {
            return isLiving(one) && isLiving(other);
        }
        if (one.sort == 0) {
            return one.number.equals(other.number);
        }
        boolean all = one.con == other.con;
        for (int i = 0; all && i < one.parts.size(); i++) {
            all = common(one.parts.get(i), other.parts.get(i));
        }
        return all;
    }

    private List<Shape> minus(Shape from, Shape taken) {
        if (taken.isAny()) {
            return List.of();
        }
        if (from.sort == 0) {
            return intsMinus(from, taken);
        }
        List<Shape> left = new ArrayList<>();
        for (Shape top : from.isAny() ? tops(from.sort) : List.of(from)) {
            if (top.con == taken.con) {
                left.addAll(partsMinus(top, taken));
            } else {
                left.add(top);
            }
        }
        return left;
    }

    private List<Shape> intsMinus(Shape from, Shape taken) {
        if (from.number != null) {
            return from.number.equals(taken.number) ? List.of() : List.of(from);
        }
        List<Integer> but = new ArrayList<>(from.but);
        but.add(taken.number);
        return List.of(Shape.intsBut(but));
    }

    private List<Shape> tops(int sort) {
        List<Shape> found = new ArrayList<>();
        for (int c = 0; c < cons.size(); c++) {
            if (cons.get(c).sort == sort) {
                List<Shape> parts = new ArrayList<>();
                for (int part : cons.get(c).parts) {
                    parts.add(Shape.any(part));
                }
                found.add(Shape.made(sort, c, parts));
            }
        }
        return found;
    }

    private List<Shape> partsMinus(Shape from, Shape taken) {
        List<Shape> left = new ArrayList<>();
        for (int i = 0; i < from.parts.size(); i++) {
            for (Shape less : minus(from.parts.get(i), taken.parts.get(i))) {
                List<Shape> parts = new ArrayList<>(from.parts);
                parts.set(i, less);
                left.add(Shape.made(from.sort, from.con, parts));
            }
        }
        return left;
    }

    private static void bad(boolean when) {
        if (when) {
            throw new IllegalArgumentException();
        }
    }

    private static void full(boolean when) {
        if (when) {
            throw new IndexOutOfBoundsException();
        }
    }
}
