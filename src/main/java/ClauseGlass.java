/**
 * Clauses of patterns, as a choice by cases has them: which ones can ever be reached,
 * and whether a value is left that none of them takes.
 */
public final class ClauseGlass {
    private static final int MOST_SORTS = 12;
    private static final int MOST_CONS = 30;
    private static final int MOST_PARTS = 2;
    private static final int MOST_PATTERNS = 200;
    private static final int MOST_IN_PATTERN = 12;
    private static final int MOST_CLAUSES = 8;
    private static final int MOST_IN_CLAUSES = 40;
    private static final int INTS = 0;

    private final Sorts sorts;
    private final Patterns patterns;
    private final Sheet clauses;
    private final Sheet pair;

    public ClauseGlass() {
        sorts = new Sorts();
        patterns = new Patterns();
        clauses = new Sheet(sorts, patterns, MOST_CLAUSES, MOST_IN_CLAUSES);
        pair = new Sheet(sorts, patterns, 2, 2 * MOST_IN_PATTERN);
    }

    public int sort() throws IndexOutOfBoundsException {
        if (sorts.sortCount >= MOST_SORTS) {
            throw new IndexOutOfBoundsException("too many sorts");
        }
        return sorts.addSort();
    }

    public int con(int s, int n, int a, int b) throws IllegalArgumentException, IndexOutOfBoundsException {
        needSort(s);
        if (s == INTS) {
            throw new IllegalArgumentException("the ints have no cons");
        }
        if (n < 0 || n > MOST_PARTS) {
            throw new IllegalArgumentException("no such number of parts");
        }
        if (n > 0) {
            needSort(a);
        }
        if (n > 1) {
            needSort(b);
        }
        if (sorts.conCount >= MOST_CONS) {
            throw new IndexOutOfBoundsException("too many cons");
        }
        return sorts.addCon(s, n, a, b);
    }

    public int any(int s) throws IllegalArgumentException, IndexOutOfBoundsException {
        needSort(s);
        needRoomForPattern(0);
        return patterns.addAny(s);
    }

    public int number(int v) throws IndexOutOfBoundsException {
        needRoomForPattern(1);
        return patterns.addNumber(v);
    }

    public int made(int c, int p, int q) throws IllegalArgumentException, IndexOutOfBoundsException {
        if (!sorts.hasCon(c)) {
            throw new IllegalArgumentException("no such con");
        }
        int n = sorts.partCount[c];
        int size = 1;
        if (n > 0) {
            needPatternOf(p, sorts.partSort(c, 0));
            size += patterns.size[p];
        }
        if (n > 1) {
            needPatternOf(q, sorts.partSort(c, 1));
            size += patterns.size[q];
        }
        needRoomForPattern(size);
        return patterns.addMade(sorts.conSort[c], c, p, q, size);
    }

    public void begin(int s) throws IllegalArgumentException {
        needSort(s);
        clauses.clear(s);
    }

    public boolean clause(int p) throws IllegalArgumentException, IndexOutOfBoundsException {
        needPatternOf(p, clauses.sort);
        if (clauses.rowCount >= MOST_CLAUSES) {
            throw new IndexOutOfBoundsException("too many clauses");
        }
        if (clauses.size + patterns.size[p] > MOST_IN_CLAUSES) {
            throw new IndexOutOfBoundsException("too much in the clauses");
        }
        clauses.addRow(p);
        return clauses.reaches(clauses.rowCount - 1);
    }

    public boolean takes(int k) throws IllegalArgumentException {
        if (k < 0 || k >= clauses.rowCount) {
            throw new IllegalArgumentException("no such clause");
        }
        return clauses.reaches(k);
    }

    public boolean open() {
        return clauses.leavesSome();
    }

    public boolean covers(int p, int q) throws IllegalArgumentException {
        layPair(p, q);
        return !pair.reaches(1);
    }

    public boolean meets(int p, int q) throws IllegalArgumentException {
        layPair(p, q);
        return pair.hasValue(0) && pair.hasValue(1) && pair.agree(0, 1);
    }

    public boolean lives(int s) throws IllegalArgumentException {
        needSort(s);
        return sorts.isSortLiving(s);
    }

    public int count(int what) {
        switch (what) {
            case 0:
                return sorts.sortCount;
            case 1:
                return sorts.conCount;
            case 2:
                return patterns.patternCount;
            case 3:
                return clauses.rowCount;
            case 4:
                return clauses.reachedRows();
            case 5:
                return Integer.bitCount(sorts.livingSorts);
            default:
                return -1;
        }
    }

    private void needSort(int s) {
        if (!sorts.hasSort(s)) {
            throw new IllegalArgumentException("no such sort");
        }
    }

    private void needPattern(int p) {
        if (!patterns.hasPattern(p)) {
            throw new IllegalArgumentException("no such pattern");
        }
    }

    private void needPatternOf(int p, int s) {
        needPattern(p);
        if (patterns.sort[p] != s) {
            throw new IllegalArgumentException("a pattern of another sort");
        }
    }

    private void needRoomForPattern(int size) {
        if (patterns.patternCount >= MOST_PATTERNS) {
            throw new IndexOutOfBoundsException("too many patterns");
        }
        if (size > MOST_IN_PATTERN) {
            throw new IndexOutOfBoundsException("too much in a pattern");
        }
    }

    private void layPair(int p, int q) {
        needPattern(p);
        needPatternOf(q, patterns.sort[p]);
        pair.clear(patterns.sort[p]);
        pair.addRow(p);
        pair.addRow(q);
    }

    /** SORTS and CONS, and which of them have VALUES; sets of either are the bits of an int. */
    private static final class Sorts {
        private int sortCount = 1;
        private int conCount = 0;
        private int livingSorts = 1;
        private int livingCons = 0;
        private final int[] consOf = new int[MOST_SORTS];
        private final int[] conSort = new int[MOST_CONS];
        private final int[] partCount = new int[MOST_CONS];
        private final int[] firstSort = new int[MOST_CONS];
        private final int[] secondSort = new int[MOST_CONS];

        private boolean hasSort(int s) {
            return s >= 0 && s < sortCount;
        }

        private boolean hasCon(int c) {
            return c >= 0 && c < conCount;
        }

        private int partSort(int c, int part) {
            return part == 0 ? firstSort[c] : secondSort[c];
        }

        private boolean isSortLiving(int s) {
            return (livingSorts >> s & 1) != 0;
        }

        private boolean isConLiving(int c) {
            return (livingCons >> c & 1) != 0;
        }

        private int livingConsOf(int s) {
            return consOf[s] & livingCons;
        }

        // It has no CON and is no PART yet: what lives is what lived before.
        private int addSort() {
            int s = sortCount;
            sortCount++;
            return s;
        }

        private int addCon(int s, int n, int a, int b) {
            int c = conCount;
            conSort[c] = s;
            partCount[c] = n;
            firstSort[c] = a;
            secondSort[c] = b;
            consOf[s] |= 1 << c;
            conCount++;
            findLiving();
            return c;
        }

        // Endless trees are VALUES too, so all SORTS count as living until one is found to have
        // no CON left to put on top; each round but the last strikes one out at least.
        private void findLiving() {
            livingSorts = (1 << sortCount) - 1;
            for (int round = 0; round < sortCount; round++) {
                livingCons = consWithLivingParts();
                livingSorts = sortsWithLivingCons();
            }
        }

        private int consWithLivingParts() {
            int found = 0;
            for (int c = 0; c < conCount; c++) {
                boolean living = true;
                for (int part = 0; part < partCount[c]; part++) {
                    living = living && isSortLiving(partSort(c, part));
                }
                if (living) {
                    found |= 1 << c;
                }
            }
            return found;
        }

        private int sortsWithLivingCons() {
            int found = 1 << INTS;
            for (int s = 1; s < sortCount; s++) {
                if (livingConsOf(s) != 0) {
                    found |= 1 << s;
                }
            }
            return found;
        }
    }

    /** PATTERNS in rows; size is how many CONS and NUMBERS one has, written out. */
    private static final class Patterns {
        private static final int ANY = 0;
        private static final int NUMBER = 1;
        private static final int MADE = 2;

        private int patternCount = 0;
        private final int[] kind = new int[MOST_PATTERNS];
        private final int[] sort = new int[MOST_PATTERNS];
        private final int[] top = new int[MOST_PATTERNS];
        private final int[] first = new int[MOST_PATTERNS];
        private final int[] second = new int[MOST_PATTERNS];
        private final int[] size = new int[MOST_PATTERNS];

        private boolean hasPattern(int p) {
            return p >= 0 && p < patternCount;
        }

        private int partOf(int p, int part) {
            return part == 0 ? first[p] : second[p];
        }

        private int addAny(int s) {
            return addPattern(ANY, s, 0, 0);
        }

        private int addNumber(int v) {
            return addPattern(NUMBER, INTS, v, 1);
        }

        private int addMade(int s, int c, int p, int q, int wholeSize) {
            int added = addPattern(MADE, s, c, wholeSize);
            first[added] = p;
            second[added] = q;
            return added;
        }

        private int addPattern(int whichKind, int s, int onTop, int wholeSize) {
            int p = patternCount;
            kind[p] = whichKind;
            sort[p] = s;
            top[p] = onTop;
            size[p] = wholeSize;
            patternCount++;
            return p;
        }
    }

    /**
     * PATTERNS of one SORT laid over one another. A place is a spot in a VALUE where a row asks
     * for a CON or NUMBER: the top (place 0), or a part below a CON at another place. A place
     * comes behind the one above it. Sets of places are the bits of a long, sets of rows of an int.
     */
    private static final class Sheet {
        private final Sorts sorts;
        private final Patterns patterns;
        private int sort;
        private int rowCount;
        private int placeCount;
        private int size;
        private final long[] asked;
        private final int[][] asks;
        private final int[] placeSort;
        private final int[] placeAbove;
        private final int[] conAbove;
        private final int[] partAbove;

        private Sheet(Sorts itsSorts, Patterns itsPatterns, int mostRows, int mostPlaces) {
            sorts = itsSorts;
            patterns = itsPatterns;
            asked = new long[mostRows];
            asks = new int[mostRows][mostPlaces];
            placeSort = new int[mostPlaces];
            placeAbove = new int[mostPlaces];
            conAbove = new int[mostPlaces];
            partAbove = new int[mostPlaces];
            clear(INTS);
        }

        private void clear(int s) {
            sort = s;
            rowCount = 0;
            placeCount = 1;
            size = 0;
            placeSort[0] = s;
        }

        private void addRow(int p) {
            asked[rowCount] = 0L;
            layPart(p, 0, rowCount, 1);
            size += patterns.size[p];
            rowCount++;
        }

        private void layPart(int p, int place, int row, int depth) {
            if (patterns.kind[p] == Patterns.ANY || depth > MOST_IN_PATTERN) {
                return;
            }
            asked[row] |= 1L << place;
            asks[row][place] = patterns.top[p];
            if (patterns.kind[p] == Patterns.NUMBER) {
                return;
            }
            int c = patterns.top[p];
            for (int part = 0; part < sorts.partCount[c]; part++) {
                int below = patterns.partOf(p, part);
                // An ANY asks nothing: a place for it would go beyond the limit of places.
                if (patterns.kind[below] != Patterns.ANY) {
                    layPart(below, placeBelow(place, c, part), row, depth + 1);
                }
            }
        }

        // Each place is asked for by a row, and what rows ask in all is limited: so are the places.
        private int placeBelow(int above, int c, int part) {
            for (int place = 1; place < placeCount; place++) {
                if (placeAbove[place] == above && conAbove[place] == c && partAbove[place] == part) {
                    return place;
                }
            }
            int added = placeCount;
            placeSort[added] = sorts.partSort(c, part);
            placeAbove[added] = above;
            conAbove[added] = c;
            partAbove[added] = part;
            placeCount++;
            return added;
        }

        /** Whether a VALUE fits this row and none before it. */
        private boolean reaches(int row) {
            return hasValue(row) && escapes(rowsBeforeThatAgree(row), asked[row], 0);
        }

        /** Whether a VALUE of the SORT fits no row. */
        private boolean leavesSome() {
            return sorts.isSortLiving(sort) && escapes((1 << rowCount) - 1, 0L, 0);
        }

        private int reachedRows() {
            int found = 0;
            for (int row = 0; row < rowCount; row++) {
                if (reaches(row)) {
                    found++;
                }
            }
            return found;
        }

        // A living CON has living PARTS, so the ANYs below it need no look of their own.
        private boolean hasValue(int row) {
            if (!sorts.isSortLiving(sort)) {
                return false;
            }
            for (int place = 0; place < placeCount; place++) {
                boolean asksCon = isAsked(row, place) && placeSort[place] != INTS;
                if (asksCon && !sorts.isConLiving(asks[row][place])) {
                    return false;
                }
            }
            return true;
        }

        /** Whether two rows ask the same wherever both ask. */
        private boolean agree(int row, int other) {
            for (int place = 0; place < placeCount; place++) {
                boolean bothAsk = isAsked(row, place) && isAsked(other, place);
                if (bothAsk && asks[row][place] != asks[other][place]) {
                    return false;
                }
            }
            return true;
        }

        private boolean isAsked(int row, int place) {
            return (asked[row] >> place & 1L) != 0L;
        }

        private int rowsBeforeThatAgree(int row) {
            int found = 0;
            for (int before = 0; before < row; before++) {
                if (agree(before, row)) {
                    found |= 1 << before;
                }
            }
            return found;
        }

        /**
         * Whether a VALUE that is settled at some places, as all of these rows ask there, can be
         * chosen at the others so that it fits none of them. A level settles one place more,
         * so the limit of places is the limit of the depth.
         */
        private boolean escapes(int rows, long settled, int depth) {
            if (rows == 0) {
                return true;
            }
            long unsettled = asked[rowWithLeastLeft(rows, settled)] & ~settled;
            if (unsettled == 0L || depth >= MOST_IN_CLAUSES) {
                return false;
            }
            // The lowest place: those above it are settled, as this row asks, so it is there.
            int place = Long.numberOfTrailingZeros(unsettled);
            long settledNow = settled | 1L << place;
            int silent = rowsSilentAt(rows, place);
            if (placeSort[place] == INTS) {
                // So few NUMBERS leave another int.
                return escapes(silent, settledNow, depth + 1);
            }
            int choices = sorts.livingConsOf(placeSort[place]);
            if ((choices & ~consAskedAt(rows, place)) != 0) {
                // A CON that no row asks for shuts out the most rows: no other can do better.
                return escapes(silent, settledNow, depth + 1);
            }
            for (int c = 0; c < MOST_CONS; c++) {
                boolean isChoice = (choices >> c & 1) != 0;
                if (isChoice && escapes(silent | rowsAsking(rows, place, c), settledNow, depth + 1)) {
                    return true;
                }
            }
            return false;
        }

        private int rowWithLeastLeft(int rows, long settled) {
            int best = 0;
            int least = MOST_IN_CLAUSES + 1;
            for (int row = 0; row < rowCount; row++) {
                int left = Long.bitCount(asked[row] & ~settled);
                if ((rows >> row & 1) != 0 && left < least) {
                    best = row;
                    least = left;
                }
            }
            return best;
        }

        private int rowsSilentAt(int rows, int place) {
            int found = 0;
            for (int row = 0; row < rowCount; row++) {
                if ((rows >> row & 1) != 0 && !isAsked(row, place)) {
                    found |= 1 << row;
                }
            }
            return found;
        }

        private int rowsAsking(int rows, int place, int c) {
            int found = 0;
            for (int row = 0; row < rowCount; row++) {
                if ((rows >> row & 1) != 0 && isAsked(row, place) && asks[row][place] == c) {
                    found |= 1 << row;
                }
            }
            return found;
        }

        private int consAskedAt(int rows, int place) {
            int found = 0;
            for (int row = 0; row < rowCount; row++) {
                if ((rows >> row & 1) != 0 && isAsked(row, place)) {
                    found |= 1 << asks[row][place];
                }
            }
            return found;
        }
    }
}
