/**
 * Patterns laid by a stepper in fields on wafers: marks and their fits, plans of few marks, lots
 * steered by late reads, tools matched layer by layer, and what is laid again.
 *
 * Every row is made once, in a constructor, and used again by each call, so a call makes no object.
 */
public final class FieldAfterField {
    public static final int NONE = -1, UNKNOWN = -100001, OUTSIDE = -100002, NOT = -100003, FULL = -100004;

    private static final int MOST_MARKS = 12, MOST_LOTS = 60, TOOLS = 4, LAYERS = 6, WAYS = 2;
    private static final int LAST_MODEL = 2, WAFER = 1, FIELD = 2;
    private static final int MOST_READ = 999, MOST_SHIFT = 9999, MOST_OFFSET = 999;
    private static final int MOST_LIMIT = 999, MOST_PLANNED = 6, MOST_BUDGET = 1998, MOST_GAIN = 16;

    private final Marks marks;
    private final Fit fitted;
    private final Planner planner;
    private final Book book;
    private final Router router;

    public FieldAfterField() {
        marks = new Marks();
        fitted = new Fit();
        planner = new Planner();
        book = new Book();
        router = new Router();
    }

    // ---- marks

    public int mark(int f, int g, int i, int j) {
        if (outside(f, -5, 5) || outside(g, -5, 5) || outside(i, -3, 3) || outside(j, -3, 3)) {
            return OUTSIDE;
        }
        if (marks.many >= MOST_MARKS) {
            return FULL;
        }
        return marks.add(f, g, i, j);
    }

    public int read(int mark, int along, int across) {
        if (!marks.has(mark)) {
            return UNKNOWN;
        }
        if (outside(along, -MOST_READ, MOST_READ) || outside(across, -MOST_READ, MOST_READ)) {
            return OUTSIDE;
        }
        marks.setReads(mark, along, across);
        return 1;
    }

    public int lose(int mark) {
        if (!marks.has(mark)) {
            return UNKNOWN;
        }
        if (isIn(marks.lost, mark)) {
            return 0;
        }
        marks.forget(mark);
        return 1;
    }

    public int told(int mark, int what) {
        if (!marks.has(mark)) {
            return UNKNOWN;
        }
        switch (what) {
            case 0: return marks.f[mark];
            case 1: return marks.g[mark];
            case 2: return marks.i[mark];
            case 3: return marks.j[mark];
            case 4: return marks.reads[0][mark];
            case 5: return marks.reads[1][mark];
            case 6: return isIn(marks.lost, mark) ? 1 : 0;
            case 7: return isIn(marks.out, mark) ? 1 : 0;
            default: return OUTSIDE;
        }
    }

    public int count(int what) {
        switch (what) {
            case 0: return marks.many;
            case 1: return Integer.bitCount(marks.lost);
            case 2: return Integer.bitCount(marks.out);
            case 3: return Integer.bitCount(marks.counting());
            case 4: return book.many;
            case 5: return book.howManyRead();
            case 6: return marks.fieldsOf(marks.counting());
            default: return OUTSIDE;
        }
    }

    // ---- fits

    public long det(int model) {
        if (outside(model, 0, LAST_MODEL)) {
            return OUTSIDE;
        }
        fitted.make(marks, model, marks.counting());
        return fitted.table.det;
    }

    public long fit(int model, int way, int t, int what) {
        if (outsideFit(model, way, what) || outside(t, 0, lastTerm(model))) {
            return OUTSIDE;
        }
        if (!fitted.make(marks, model, marks.counting())) {
            return NOT;
        }
        return partOf(fitted.factors[way][t], fitted.table.det, what);
    }

    public long rest(int model, int way, int mark, int what) {
        if (!marks.has(mark)) {
            return UNKNOWN;
        }
        if (outsideFit(model, way, what)) {
            return OUTSIDE;
        }
        if (isIn(marks.lost, mark) || !fitted.make(marks, model, marks.counting())) {
            return NOT;
        }
        return partOf(fitted.restOf(marks, way, mark), fitted.table.det, what);
    }

    public long spread(int model, int way, int what) {
        if (outsideFit(model, way, what)) {
            return OUTSIDE;
        }
        if (!fitted.make(marks, model, marks.counting())) {
            return NOT;
        }
        return partOf(fitted.sumOfSquares(way), fitted.table.det, what);
    }

    public int judge(int model, int limit) {
        if (outside(model, 0, LAST_MODEL) || outside(limit, 1, MOST_LIMIT)) {
            return OUTSIDE;
        }
        if (!fitted.make(marks, model, marks.notLost())) {
            return NOT;
        }
        marks.out = fitted.liars(marks, model, limit);
        return Integer.bitCount(marks.out);
    }

    // ---- plans

    public long plan(int k, int model, int what) {
        if (outside(k, 1, MOST_PLANNED) || outside(model, 0, LAST_MODEL) || outside(what, 0, 2)) {
            return OUTSIDE;
        }
        if (!planner.make(marks, k, model)) {
            return NOT;
        }
        return what == 0 ? planner.best : partOf(planner.bestUpper, planner.bestLower, what - 1);
    }

    // ---- lots

    public int lot(int tool, int shift) {
        if (outside(tool, 0, TOOLS - 1)) {
            return UNKNOWN;
        }
        if (outside(shift, -MOST_SHIFT, MOST_SHIFT)) {
            return OUTSIDE;
        }
        if (book.many >= MOST_LOTS) {
            return FULL;
        }
        return book.add(tool, shift);
    }

    public int back(int lot, int read) {
        if (!book.has(lot)) {
            return UNKNOWN;
        }
        if (outside(read, -MOST_SHIFT, MOST_SHIFT)) {
            return OUTSIDE;
        }
        book.setRead(lot, read);
        return 1;
    }

    public int mend(int tool) {
        if (outside(tool, 0, TOOLS - 1)) {
            return UNKNOWN;
        }
        book.setMended(tool);
        return 1;
    }

    public int gain(int v) {
        if (outside(v, 1, MOST_GAIN)) {
            return OUTSIDE;
        }
        int was = book.gain;
        book.gain = v;
        return was;
    }

    public int state(int tool, int n) {
        if (outside(tool, 0, TOOLS - 1)) {
            return UNKNOWN;
        }
        if (outside(n, 0, book.many)) {
            return OUTSIDE;
        }
        return book.stateAhead(tool, n);
    }

    public int advice(int tool) {
        if (outside(tool, 0, TOOLS - 1)) {
            return UNKNOWN;
        }
        return -(book.stateAhead(tool, book.many) / 1000);
    }

    // ---- tools

    public int offset(int tool, int layer, int v) {
        if (outside(tool, 0, TOOLS - 1)) {
            return UNKNOWN;
        }
        if (outside(layer, 0, LAYERS - 1) || outside(v, -MOST_OFFSET, MOST_OFFSET)) {
            return OUTSIDE;
        }
        int was = router.offsets[tool][layer];
        router.offsets[tool][layer] = v;
        return was;
    }

    public int rule(int what, int v) {
        if (what == 0 && !outside(v, 0, MOST_BUDGET)) {
            int was = router.budget;
            router.budget = v;
            return was;
        }
        if (what == 1 && !outside(v, 1, LAYERS)) {
            int was = router.cap;
            router.cap = v;
            return was;
        }
        return OUTSIDE;
    }

    public int route(int n, int layer) {
        if (outside(n, 1, LAYERS) || outside(layer, NONE, n - 1)) {
            return OUTSIDE;
        }
        if (!router.make(n)) {
            return NOT;
        }
        return layer == NONE ? router.bestSum : router.best[layer];
    }

    // ---- laid again

    public int bad(int model, int limit, int what) {
        if (outside(model, 0, LAST_MODEL) || outside(limit, 0, MOST_LIMIT) || outside(what, 0, 2)) {
            return OUTSIDE;
        }
        int counting = marks.counting();
        if (!fitted.make(marks, model, counting)) {
            return NOT;
        }
        int above = fitted.above(marks, counting, limit);
        if (what == 0) {
            return Integer.bitCount(above);
        }
        int fields = marks.fieldsOf(above);
        if (what == 1) {
            return fields;
        }
        return 2 * fields > marks.fieldsOf(counting) ? 1 : 0;
    }

    // ---- what several parts use

    private static boolean outside(int v, int least, int most) {
        return v < least || v > most;
    }

    private static boolean outsideFit(int model, int way, int what) {
        return outside(model, 0, LAST_MODEL) || outside(way, 0, WAYS - 1) || outside(what, 0, 1);
    }

    private static int lastTerm(int model) {
        return model == 0 ? 0 : 2;
    }

    /** Sets of marks are whole numbers: bit m stands for mark m. */
    private static boolean isIn(int set, int m) {
        return (set >> m & 1) != 0;
    }

    /** The upper (what = 0) or the lower number of a fraction in least terms; lower is above 0. */
    private static long partOf(long upper, long lower, int what) {
        long divisor = commonDivisor(Math.abs(upper), lower);
        if (divisor == 0) {
            return 0;
        }
        return (what == 0 ? upper : lower) / divisor;
    }

    private static long commonDivisor(long a, long b) {
        // Two long numbers are at an end after fewer than a hundred steps.
        for (int step = 0; step < 100 && b != 0; step++) {
            long left = a % b;
            a = b;
            b = left;
        }
        return a;
    }

    /** The marks, their reads, and which of them are lost or out. */
    private static final class Marks {
        private final int[] f = new int[MOST_MARKS];
        private final int[] g = new int[MOST_MARKS];
        private final int[] i = new int[MOST_MARKS];
        private final int[] j = new int[MOST_MARKS];
        private final int[][] reads = new int[WAYS][MOST_MARKS];
        private int many;
        private int lost;
        private int out;

        private boolean has(int m) {
            return m >= 0 && m < many;
        }

        private int add(int column, int row, int inColumn, int inRow) {
            int m = many;
            f[m] = column;
            g[m] = row;
            i[m] = inColumn;
            j[m] = inRow;
            lost |= 1 << m;
            many = m + 1;
            return m;
        }

        private void setReads(int m, int along, int across) {
            reads[0][m] = along;
            reads[1][m] = across;
            lost &= ~(1 << m);
            out &= ~(1 << m);
        }

        private void forget(int m) {
            setReads(m, 0, 0);
            lost |= 1 << m;
        }

        private int notLost() {
            return (1 << many) - 1 & ~lost;
        }

        private int counting() {
            return notLost() & ~out;
        }

        /** The term that a model has next to the 1; a model of one term has 0 there. */
        private int secondTerm(int model, int m) {
            return model == WAFER ? f[m] : model == FIELD ? i[m] : 0;
        }

        private int thirdTerm(int model, int m) {
            return model == WAFER ? g[m] : model == FIELD ? j[m] : 0;
        }

        private int fieldsOf(int set) {
            int fields = 0;
            for (int m = 0; m < many; m++) {
                if (isIn(set, m) && !hasEarlierOfField(set, m)) {
                    fields++;
                }
            }
            return fields;
        }

        private boolean hasEarlierOfField(int set, int m) {
            for (int e = 0; e < m; e++) {
                if (isIn(set, e) && f[e] == f[m] && g[e] == g[m]) {
                    return true;
                }
            }
            return false;
        }
    }

    /** The table of sums of products of two terms each, and the one that turns it back. */
    private static final class Table {
        private long s00, s01, s02, s11, s12, s22;
        private long v00, v01, v02, v11, v12, v22;
        private long det;

        private void clear(int model) {
            s00 = 0;
            s01 = 0;
            s02 = 0;
            s12 = 0;
            // A model of one term gets two idle ones, so that all models share one form of table.
            s11 = model == 0 ? 1 : 0;
            s22 = s11;
        }

        /** Brings a mark in (times = 1) or takes it away again (times = -1). */
        private void add(long x, long y, int times) {
            s00 += times;
            s01 += times * x;
            s02 += times * y;
            s11 += times * x * x;
            s12 += times * x * y;
            s22 += times * y * y;
        }

        /** Makes det, and the table that turns this one back, times det. */
        private void turnBack() {
            v00 = s11 * s22 - s12 * s12;
            v01 = s02 * s12 - s01 * s22;
            v02 = s01 * s12 - s02 * s11;
            v11 = s00 * s22 - s02 * s02;
            v12 = s01 * s02 - s00 * s12;
            v22 = s00 * s11 - s01 * s01;
            det = s00 * v00 + s01 * v01 + s02 * v02;
        }

        /** t V t of the terms 1, x, y, times det. */
        private long formOf(long x, long y) {
            return v00 + x * x * v11 + y * y * v22 + 2 * (x * v01 + y * v02 + x * y * v12);
        }
    }

    /** The fit of a model over a set of marks, both ways; its fractions are over table.det. */
    private static final class Fit {
        private final Table table = new Table();
        /** Of each way: the sums of read times each term, and of read times read. */
        private final long[][] sums = new long[WAYS][4];
        private final long[][] factors = new long[WAYS][3];
        private int model;

        /** Whether it stands. */
        private boolean make(Marks marks, int newModel, int set) {
            model = newModel;
            table.clear(model);
            for (int m = 0; m < marks.many; m++) {
                if (isIn(set, m)) {
                    table.add(marks.secondTerm(model, m), marks.thirdTerm(model, m), 1);
                }
            }
            table.turnBack();
            for (int way = 0; way < WAYS; way++) {
                makeSums(marks, way, set);
                makeFactors(way);
            }
            return table.det != 0;
        }

        private void makeSums(Marks marks, int way, int set) {
            long[] sum = sums[way];
            sum[0] = 0;
            sum[1] = 0;
            sum[2] = 0;
            sum[3] = 0;
            for (int m = 0; m < marks.many; m++) {
                if (isIn(set, m)) {
                    long read = marks.reads[way][m];
                    sum[0] += read;
                    sum[1] += read * marks.secondTerm(model, m);
                    sum[2] += read * marks.thirdTerm(model, m);
                    sum[3] += read * read;
                }
            }
        }

        private void makeFactors(int way) {
            long[] sum = sums[way];
            long[] factor = factors[way];
            factor[0] = table.v00 * sum[0] + table.v01 * sum[1] + table.v02 * sum[2];
            factor[1] = table.v01 * sum[0] + table.v11 * sum[1] + table.v12 * sum[2];
            factor[2] = table.v02 * sum[0] + table.v12 * sum[1] + table.v22 * sum[2];
        }

        private long restOf(Marks marks, int way, int m) {
            long[] factor = factors[way];
            long made = factor[0] + factor[1] * marks.secondTerm(model, m)
                    + factor[2] * marks.thirdTerm(model, m);
            return marks.reads[way][m] * table.det - made;
        }

        private long greaterRestOf(Marks marks, int m) {
            return Math.max(Math.abs(restOf(marks, 0, m)), Math.abs(restOf(marks, 1, m)));
        }

        /**
         * The sum of squares of rests. Adding up squares of upper numbers would pass what a long
         * holds; this way round no number comes near it.
         */
        private long sumOfSquares(int way) {
            long[] sum = sums[way];
            long[] factor = factors[way];
            return sum[3] * table.det - factor[0] * sum[0] - factor[1] * sum[1] - factor[2] * sum[2];
        }

        /** Those marks of a set with a rest above the limit. */
        private int above(Marks marks, int set, int limit) {
            int found = 0;
            for (int m = 0; m < marks.many; m++) {
                if (isIn(set, m) && greaterRestOf(marks, m) > limit * table.det) {
                    found |= 1 << m;
                }
            }
            return found;
        }

        /** The marks that the law leaves out; the fit stands with all that are not lost. */
        private int liars(Marks marks, int ofModel, int limit) {
            int kept = marks.notLost();
            for (int round = 0; round < MOST_MARKS; round++) {
                make(marks, ofModel, kept);
                int liar = worstOf(marks, above(marks, kept, limit));
                if (liar == NONE || !make(marks, ofModel, kept & ~(1 << liar))) {
                    break;
                }
                kept &= ~(1 << liar);
            }
            return marks.notLost() & ~kept;
        }

        private int worstOf(Marks marks, int set) {
            int worst = NONE;
            long greatest = 0;
            for (int m = 0; m < marks.many; m++) {
                if (isIn(set, m) && greaterRestOf(marks, m) > greatest) {
                    worst = m;
                    greatest = greaterRestOf(marks, m);
                }
            }
            return worst;
        }
    }

    /** Which few marks to read, so that the worst is told best. */
    private static final class Planner {
        private final Table table = new Table();
        private int model;
        /** The best set so far, 0 if there is none yet, and its worst. */
        private int best;
        private long bestUpper;
        private long bestLower;

        /** Whether there is a plan. */
        private boolean make(Marks marks, int k, int newModel) {
            model = newModel;
            best = 0;
            table.clear(model);
            choose(marks, 0, k, 0);
            return best != 0;
        }

        /** Goes through the sets in the order in which the first of like ones is due. */
        private void choose(Marks marks, int next, int left, int set) {
            if (left <= 0) {
                weigh(marks, set);
                return;
            }
            for (int m = next; m <= marks.many - left; m++) {
                chooseWith(marks, m, left, set);
            }
        }

        /** The sets that go on with mark m. */
        private void chooseWith(Marks marks, int m, int left, int set) {
            int x = marks.secondTerm(model, m);
            int y = marks.thirdTerm(model, m);
            table.add(x, y, 1);
            choose(marks, m + 1, left - 1, set | 1 << m);
            table.add(x, y, -1);
        }

        private void weigh(Marks marks, int set) {
            table.turnBack();
            if (table.det == 0) {
                return;
            }
            long worst = 0;
            for (int m = 0; m < marks.many; m++) {
                worst = Math.max(worst, table.formOf(marks.secondTerm(model, m), marks.thirdTerm(model, m)));
                if (best != 0 && worst * bestLower >= bestUpper * table.det) {
                    return;
                }
            }
            best = set;
            bestUpper = worst;
            bestLower = table.det;
        }
    }

    /** The lots in order; worked through anew each time, so that a late read is as one in time. */
    private static final class Book {
        private final int[] tools = new int[MOST_LOTS];
        private final int[] shifts = new int[MOST_LOTS];
        private final int[] reads = new int[MOST_LOTS];
        private final boolean[] isRead = new boolean[MOST_LOTS];
        /** Of each tool and lot, the one after the last too: 1 if it was mended ahead of it. */
        private final int[][] mended = new int[TOOLS][MOST_LOTS + 1];
        private int many;
        private int gain = 8;

        private boolean has(int lot) {
            return lot >= 0 && lot < many;
        }

        private int add(int tool, int shift) {
            int lot = many;
            tools[lot] = tool;
            shifts[lot] = shift;
            many = lot + 1;
            return lot;
        }

        private void setRead(int lot, int read) {
            reads[lot] = read;
            isRead[lot] = true;
        }

        private void setMended(int tool) {
            mended[tool][many] = 1;
        }

        private int howManyRead() {
            int found = 0;
            for (int lot = 0; lot < many; lot++) {
                if (isRead[lot]) {
                    found++;
                }
            }
            return found;
        }

        private int stateAhead(int tool, int n) {
            int thousandths = 0;
            for (int lot = 0; lot < n; lot++) {
                if (mended[tool][lot] == 1) {
                    thousandths = 0;
                }
                if (tools[lot] == tool && isRead[lot]) {
                    int aim = 1000 * (reads[lot] - shifts[lot]);
                    thousandths += gain * (aim - thousandths) / 16;
                }
            }
            return mended[tool][n] == 1 ? 0 : thousandths;
        }
    }

    /** The offsets of tools, and which tool each layer goes to. */
    private static final class Router {
        private final int[][] offsets = new int[TOOLS][LAYERS];
        private final int[] tools = new int[LAYERS];
        private final int[] best = new int[LAYERS];
        private final int[] used = new int[TOOLS];
        private int budget = 100;
        private int cap = LAYERS;
        /** The least sum so far, NONE if there is no route yet. */
        private int bestSum;

        /** Whether there is a route of n layers. */
        private boolean make(int n) {
            bestSum = NONE;
            send(n, 0, 0);
            return bestSum != NONE;
        }

        /** Goes through the routes by rising tools, so that the first of like ones stays. */
        private void send(int n, int layer, int sum) {
            if (bestSum != NONE && sum >= bestSum) {
                return;
            }
            if (layer >= n) {
                bestSum = sum;
                System.arraycopy(tools, 0, best, 0, n);
                return;
            }
            for (int tool = 0; tool < TOOLS; tool++) {
                sendTo(tool, n, layer, sum);
            }
        }

        /** The routes that go on with this tool, if the rules let them. */
        private void sendTo(int tool, int n, int layer, int sum) {
            int step = stepTo(layer, tool);
            if (used[tool] < cap && step <= budget) {
                tools[layer] = tool;
                used[tool]++;
                send(n, layer + 1, sum + step);
                used[tool]--;
            }
        }

        private int stepTo(int layer, int tool) {
            if (layer == 0) {
                return 0;
            }
            int before = tools[layer - 1];
            return Math.abs(offsets[tool][layer] - offsets[before][layer - 1]);
        }
    }
}
