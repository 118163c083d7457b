import java.util.ArrayList;
import java.util.HashSet;
import java.util.List;
import java.util.Set;

/**
 * The document once more, told slowly: fractions of any size, elimination, full enumeration and a
 * log of what happened, so that it shares no short cut with the class that it checks.
 */
final class Oracle {
    private static final int UNKNOWN = -100001, OUTSIDE = -100002, NOT = -100003, FULL = -100004;

    /** f, g, i, j, along, across, lost, out. */
    private final List<int[]> marks = new ArrayList<>();
    /** What happened to lots, in order: {0, tool, lot} a lot was made, {1, tool} a tool was mended. */
    private final List<int[]> log = new ArrayList<>();
    private final List<Integer> shifts = new ArrayList<>();
    private final List<Integer> lotReads = new ArrayList<>();
    private final int[][] offsets = new int[4][6];
    private int gain = 8;
    private int budget = 100;
    private int cap = 6;

    private static boolean within(int v, int least, int most) {
        return least <= v && v <= most;
    }

    private boolean noMark(int m) {
        return !within(m, 0, marks.size() - 1);
    }

    private static boolean noTool(int tool) {
        return !within(tool, 0, 3);
    }

    int mark(int f, int g, int i, int j) {
        if (!within(f, -5, 5) || !within(g, -5, 5) || !within(i, -3, 3) || !within(j, -3, 3)) {
            return OUTSIDE;
        }
        if (marks.size() == 12) {
            return FULL;
        }
        marks.add(new int[] {f, g, i, j, 0, 0, 1, 0});
        return marks.size() - 1;
    }

    int read(int m, int along, int across) {
        if (noMark(m)) {
            return UNKNOWN;
        }
        if (!within(along, -999, 999) || !within(across, -999, 999)) {
            return OUTSIDE;
        }
        int[] a = marks.get(m);
        a[4] = along;
        a[5] = across;
        a[6] = 0;
        a[7] = 0;
        return 1;
    }

    int lose(int m) {
        if (noMark(m)) {
            return UNKNOWN;
        }
        int[] a = marks.get(m);
        int was = a[6];
        a[4] = 0;
        a[5] = 0;
        a[6] = 1;
        a[7] = 0;
        return 1 - was;
    }

    int told(int m, int what) {
        if (noMark(m)) {
            return UNKNOWN;
        }
        return within(what, 0, 7) ? marks.get(m)[what] : OUTSIDE;
    }

    int count(int what) {
        switch (what) {
            case 0: return marks.size();
            case 1: return (int) marks.stream().filter(a -> a[6] == 1).count();
            case 2: return (int) marks.stream().filter(a -> a[7] == 1).count();
            case 3: return counting().size();
            case 4: return shifts.size();
            case 5: return (int) lotReads.stream().filter(r -> r != null).count();
            case 6: return fields(counting());
            default: return OUTSIDE;
        }
    }

    private List<int[]> counting() {
        List<int[]> those = new ArrayList<>();
        for (int[] a : marks) {
            if (a[6] == 0 && a[7] == 0) {
                those.add(a);
            }
        }
        return those;
    }

    private static int fields(List<int[]> those) {
        Set<String> seen = new HashSet<>();
        for (int[] a : those) {
            seen.add(a[0] + "/" + a[1]);
        }
        return seen.size();
    }

    private static int[] terms(int model, int[] a) {
        if (model == 0) {
            return new int[] {1};
        }
        return model == 1 ? new int[] {1, a[0], a[1]} : new int[] {1, a[2], a[3]};
    }

    private static Ratio[][] table(int model, List<int[]> those) {
        int size = model == 0 ? 1 : 3;
        long[][] sums = new long[size][size];
        for (int[] a : those) {
            int[] t = terms(model, a);
            for (int r = 0; r < size; r++) {
                for (int c = 0; c < size; c++) {
                    sums[r][c] += t[r] * t[c];
                }
            }
        }
        Ratio[][] table = new Ratio[size][size];
        for (int r = 0; r < size; r++) {
            for (int c = 0; c < size; c++) {
                table[r][c] = Ratio.of(sums[r][c]);
            }
        }
        return table;
    }

    /** Brings rows to the unit table by elimination, and the right side along; answers det. */
    private static Ratio eliminate(Ratio[][] left, Ratio[][] right) {
        Ratio det = Ratio.of(1);
        for (int c = 0; c < left.length; c++) {
            int p = c;
            while (p < left.length && left[p][c].isZero()) {
                p++;
            }
            if (p == left.length) {
                return Ratio.ZERO;
            }
            if (p != c) {
                Ratio[] row = left[p];
                left[p] = left[c];
                left[c] = row;
                row = right[p];
                right[p] = right[c];
                right[c] = row;
                det = Ratio.ZERO.less(det);
            }
            Ratio pivot = left[c][c];
            det = det.times(pivot);
            scale(left[c], pivot);
            scale(right[c], pivot);
            for (int r = 0; r < left.length; r++) {
                if (r != c) {
                    Ratio factor = left[r][c];
                    takeOff(left[r], left[c], factor);
                    takeOff(right[r], right[c], factor);
                }
            }
        }
        return det;
    }

    private static void scale(Ratio[] row, Ratio by) {
        for (int c = 0; c < row.length; c++) {
            row[c] = row[c].over(by);
        }
    }

    private static void takeOff(Ratio[] row, Ratio[] other, Ratio factor) {
        for (int c = 0; c < row.length; c++) {
            row[c] = row[c].less(other[c].times(factor));
        }
    }

    private static Ratio detOf(int model, List<int[]> those) {
        Ratio[][] table = table(model, those);
        return eliminate(table, new Ratio[table.length][0]);
    }

    /** The factors, or null if the fit does not stand. */
    private static Ratio[] factors(int model, int way, List<int[]> those) {
        Ratio[][] table = table(model, those);
        Ratio[][] right = new Ratio[table.length][1];
        for (int r = 0; r < table.length; r++) {
            long sum = 0;
            for (int[] a : those) {
                sum += (long) terms(model, a)[r] * a[4 + way];
            }
            right[r][0] = Ratio.of(sum);
        }
        if (eliminate(table, right).isZero()) {
            return null;
        }
        Ratio[] found = new Ratio[table.length];
        for (int r = 0; r < table.length; r++) {
            found[r] = right[r][0];
        }
        return found;
    }

    private static Ratio restOf(int model, int way, List<int[]> those, int[] a) {
        Ratio[] factors = factors(model, way, those);
        Ratio rest = Ratio.of(a[4 + way]);
        for (int t = 0; t < factors.length; t++) {
            rest = rest.less(factors[t].times(Ratio.of(terms(model, a)[t])));
        }
        return rest;
    }

    long det(int model) {
        return within(model, 0, 2) ? detOf(model, counting()).part(0) : OUTSIDE;
    }

    private static boolean fitWithin(int model, int way, int what) {
        return within(model, 0, 2) && within(way, 0, 1) && within(what, 0, 1);
    }

    long fit(int model, int way, int t, int what) {
        if (!fitWithin(model, way, what) || !within(t, 0, model == 0 ? 0 : 2)) {
            return OUTSIDE;
        }
        Ratio[] factors = factors(model, way, counting());
        return factors == null ? NOT : factors[t].part(what);
    }

    long rest(int model, int way, int m, int what) {
        if (noMark(m)) {
            return UNKNOWN;
        }
        if (!fitWithin(model, way, what)) {
            return OUTSIDE;
        }
        if (marks.get(m)[6] == 1 || detOf(model, counting()).isZero()) {
            return NOT;
        }
        return restOf(model, way, counting(), marks.get(m)).part(what);
    }

    long spread(int model, int way, int what) {
        if (!fitWithin(model, way, what)) {
            return OUTSIDE;
        }
        if (detOf(model, counting()).isZero()) {
            return NOT;
        }
        Ratio sum = Ratio.ZERO;
        for (int[] a : counting()) {
            Ratio rest = restOf(model, way, counting(), a);
            sum = sum.plus(rest.times(rest));
        }
        return sum.part(what);
    }

    private static Ratio greater(int model, List<int[]> those, int[] a) {
        Ratio along = restOf(model, 0, those, a).size();
        Ratio across = restOf(model, 1, those, a).size();
        return along.compareTo(across) < 0 ? across : along;
    }

    int judge(int model, int limit) {
        if (!within(model, 0, 2) || !within(limit, 1, 999)) {
            return OUTSIDE;
        }
        List<int[]> kept = new ArrayList<>();
        for (int[] a : marks) {
            if (a[6] == 0) {
                kept.add(a);
            }
        }
        if (detOf(model, kept).isZero()) {
            return NOT;
        }
        for (int[] a : marks) {
            a[7] = 0;
        }
        int gone = 0;
        while (true) {
            int[] liar = null;
            for (int[] a : kept) {
                boolean isAbove = greater(model, kept, a).compareTo(Ratio.of(limit)) > 0;
                if (isAbove && (liar == null
                        || greater(model, kept, a).compareTo(greater(model, kept, liar)) > 0)) {
                    liar = a;
                }
            }
            List<int[]> without = new ArrayList<>(kept);
            without.remove(liar);
            if (liar == null || detOf(model, without).isZero()) {
                return gone;
            }
            kept = without;
            liar[7] = 1;
            gone++;
        }
    }

    long plan(int k, int model, int what) {
        if (!within(k, 1, 6) || !within(model, 0, 2) || !within(what, 0, 2)) {
            return OUTSIDE;
        }
        List<Integer> best = null;
        Ratio least = null;
        for (int set = 0; set < 1 << marks.size(); set++) {
            List<Integer> numbers = new ArrayList<>();
            List<int[]> those = new ArrayList<>();
            for (int m = 0; m < marks.size(); m++) {
                if ((set & 1 << m) != 0) {
                    numbers.add(m);
                    those.add(marks.get(m));
                }
            }
            Ratio worst = numbers.size() == k ? worst(model, those) : null;
            if (worst != null && (best == null || worst.compareTo(least) < 0
                    || worst.compareTo(least) == 0 && isAhead(numbers, best))) {
                best = numbers;
                least = worst;
            }
        }
        if (best == null) {
            return NOT;
        }
        return what == 0 ? best.stream().mapToInt(m -> 1 << m).sum() : least.part(what - 1);
    }

    private static boolean isAhead(List<Integer> a, List<Integer> b) {
        for (int n = 0; n < a.size(); n++) {
            if (!a.get(n).equals(b.get(n))) {
                return a.get(n) < b.get(n);
            }
        }
        return false;
    }

    private Ratio worst(int model, List<int[]> those) {
        Ratio[][] table = table(model, those);
        int size = table.length;
        Ratio[][] v = new Ratio[size][size];
        for (int r = 0; r < size; r++) {
            for (int c = 0; c < size; c++) {
                v[r][c] = Ratio.of(r == c ? 1 : 0);
            }
        }
        if (eliminate(table, v).isZero()) {
            return null;
        }
        Ratio worst = null;
        for (int[] a : marks) {
            int[] t = terms(model, a);
            Ratio sum = Ratio.ZERO;
            for (int r = 0; r < size; r++) {
                for (int c = 0; c < size; c++) {
                    sum = sum.plus(v[r][c].times(Ratio.of((long) t[r] * t[c])));
                }
            }
            worst = worst == null || sum.compareTo(worst) > 0 ? sum : worst;
        }
        return worst;
    }

    int lot(int tool, int shift) {
        if (noTool(tool)) {
            return UNKNOWN;
        }
        if (!within(shift, -9999, 9999)) {
            return OUTSIDE;
        }
        if (shifts.size() == 60) {
            return FULL;
        }
        log.add(new int[] {0, tool, shifts.size()});
        shifts.add(shift);
        lotReads.add(null);
        return shifts.size() - 1;
    }

    int back(int lot, int read) {
        if (!within(lot, 0, shifts.size() - 1)) {
            return UNKNOWN;
        }
        if (!within(read, -9999, 9999)) {
            return OUTSIDE;
        }
        lotReads.set(lot, read);
        return 1;
    }

    int mend(int tool) {
        if (noTool(tool)) {
            return UNKNOWN;
        }
        log.add(new int[] {1, tool});
        return 1;
    }

    int gain(int v) {
        if (!within(v, 1, 16)) {
            return OUTSIDE;
        }
        int was = gain;
        gain = v;
        return was;
    }

    int state(int tool, int n) {
        if (noTool(tool)) {
            return UNKNOWN;
        }
        if (!within(n, 0, shifts.size())) {
            return OUTSIDE;
        }
        long state = 0;
        for (int[] entry : log) {
            if (entry[0] == 0 && entry[2] >= n) {
                break;
            }
            if (entry[1] == tool) {
                state = entry[0] == 1 ? 0 : after(state, entry[2]);
            }
        }
        return (int) state;
    }

    private long after(long state, int lot) {
        if (lotReads.get(lot) == null) {
            return state;
        }
        long apart = 1000L * (lotReads.get(lot) - shifts.get(lot)) - state;
        return state + gain * apart / 16;
    }

    int advice(int tool) {
        return noTool(tool) ? UNKNOWN : -state(tool, shifts.size()) / 1000;
    }

    int offset(int tool, int layer, int v) {
        if (noTool(tool)) {
            return UNKNOWN;
        }
        if (!within(layer, 0, 5) || !within(v, -999, 999)) {
            return OUTSIDE;
        }
        int was = offsets[tool][layer];
        offsets[tool][layer] = v;
        return was;
    }

    int rule(int what, int v) {
        if (!within(what, 0, 1) || !(what == 0 ? within(v, 0, 1998) : within(v, 1, 6))) {
            return OUTSIDE;
        }
        int was = what == 0 ? budget : cap;
        if (what == 0) {
            budget = v;
        } else {
            cap = v;
        }
        return was;
    }

    int route(int n, int layer) {
        if (!within(n, 1, 6) || !within(layer, -1, n - 1)) {
            return OUTSIDE;
        }
        int least = -1;
        int[] best = null;
        for (int code = 0; code < 1 << 2 * n; code++) {
            int[] tools = new int[n];
            for (int l = 0; l < n; l++) {
                tools[l] = code >> 2 * (n - 1 - l) & 3;
            }
            int sum = sumOf(tools);
            if (sum >= 0 && (best == null || sum < least)) {
                best = tools;
                least = sum;
            }
        }
        if (best == null) {
            return NOT;
        }
        return layer == -1 ? least : best[layer];
    }

    /** The sum of a route, or -1 if it goes against a rule. */
    private int sumOf(int[] tools) {
        int[] layers = new int[4];
        int sum = 0;
        for (int l = 0; l < tools.length; l++) {
            layers[tools[l]]++;
            if (layers[tools[l]] > cap) {
                return -1;
            }
            if (l > 0) {
                int differ = Math.abs(offsets[tools[l]][l] - offsets[tools[l - 1]][l - 1]);
                if (differ > budget) {
                    return -1;
                }
                sum += differ;
            }
        }
        return sum;
    }

    int bad(int model, int limit, int what) {
        if (!within(model, 0, 2) || !within(limit, 0, 999) || !within(what, 0, 2)) {
            return OUTSIDE;
        }
        List<int[]> all = counting();
        if (detOf(model, all).isZero()) {
            return NOT;
        }
        List<int[]> bad = new ArrayList<>();
        for (int[] a : all) {
            if (greater(model, all, a).compareTo(Ratio.of(limit)) > 0) {
                bad.add(a);
            }
        }
        if (what == 0) {
            return bad.size();
        }
        if (what == 1) {
            return fields(bad);
        }
        return fields(bad) <= fields(all) / 2.0 ? 0 : 1;
    }
}
