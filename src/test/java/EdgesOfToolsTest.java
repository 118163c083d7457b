import java.util.Arrays;

/** Promises 19 to 21 at their boundaries: offset, rule, route. */
public final class EdgesOfToolsTest {
    private static final int NONE = -1, UNKNOWN = -100001, OUTSIDE = -100002, NOT = -100003;
    private static final Edges EDGES = new Edges("EdgesOfToolsTest");

    public static void main(String[] args) {
        offset();
        rule();
        route();
        EDGES.end();
    }

    private static void offset() {
        EDGES.sentence(19, "UNKNOWN (a MARK, LOT, TOOL that there is not)", EdgesOfToolsTest::offsetToolFrom0To3);
        EDGES.sentence(19, "OFFSETS of TOOLS in LAYERS 0 to 5", EdgesOfToolsTest::offsetLayerFrom0To5);
        EDGES.sentence(19, "(-999 .. 999; 0 at first)", EdgesOfToolsTest::offsetFromMinus999To999);
        EDGES.sentence(19, "UNKNOWN, OUTSIDE.", EdgesOfToolsTest::offsetIsUnknownAheadOfOutside);
        EDGES.sentence(19, "OFFSET of a TOOL in a LAYER becomes v: what it was.", EdgesOfToolsTest::eachOffsetOnItsOwn);
    }

    private static void rule() {
        EDGES.sentence(20, "What = 0 BUDGET, 1 CAP", EdgesOfToolsTest::ruleWhatFrom0To1);
        EDGES.sentence(20, "BUDGET (0 .. 1998; 100 at first)", EdgesOfToolsTest::budgetFrom0To1998);
        EDGES.sentence(20, "CAP LAYERS (1 .. 6; 6 at first)", EdgesOfToolsTest::capFrom1To6);
        EDGES.sentence(20, "becomes v: what it was.", EdgesOfToolsTest::ruleTellsWhatItWas);
    }

    private static void route() {
        EDGES.sentence(21, "LAYERS 0 to n - 1 (n 1 .. 6)", EdgesOfToolsTest::routeNFrom1To6);
        EDGES.sentence(21, "OUTSIDE (n; the LAYER 0 .. n - 1)", EdgesOfToolsTest::routeLayerFrom0ToNLess1);
        EDGES.sentence(21, "layer = NONE the sum, else its TOOL", EdgesOfToolsTest::routeOfNone);
        EDGES.sentence(21, "NOT: there is none", EdgesOfToolsTest::routeThatThereIsNot);
        EDGES.sentence(21, "OUTSIDE (another number out of its bounds), NOT",
                EdgesOfToolsTest::routeIsOutsideAheadOfNot);
        EDGES.sentence(21, "in which none is above BUDGET", EdgesOfToolsTest::aStepAtTheBudget);
        EDGES.sentence(21, "no TOOL has more than CAP LAYERS", EdgesOfToolsTest::asManyLayersAsTheCap);
        EDGES.sentence(21, "the size of the difference of their TOOLS' OFFSETS, of each in its own LAYER",
                EdgesOfToolsTest::stepsUpAndDown);
        EDGES.sentence(21, "that with the least sum", EdgesOfToolsTest::leastAndGreatestSums);
        EDGES.sentence(21, "of several the first (the lesser TOOL where they first differ)",
                EdgesOfToolsTest::ofSeveralTheFirst);
    }

    /** A row for each tool, a number for each layer. */
    private static FieldAfterField of(int[]... rows) {
        FieldAfterField x = new FieldAfterField();
        for (int tool = 0; tool < rows.length; tool++) {
            for (int layer = 0; layer < rows[tool].length; layer++) {
                x.offset(tool, layer, rows[tool][layer]);
            }
        }
        return x;
    }

    /** The same offsets for every tool: a number for each layer. */
    private static FieldAfterField alike(int... layers) {
        return of(layers, layers, layers, layers);
    }

    /** The same offset in every layer: a number for each tool. */
    private static FieldAfterField level(int... tools) {
        int[][] rows = new int[4][6];
        for (int tool = 0; tool <= 3; tool++) {
            Arrays.fill(rows[tool], tools[tool]);
        }
        return of(rows);
    }

    private static void route(FieldAfterField x, int sum, int... tools) {
        EDGES.due(sum, x, "route", tools.length, NONE);
        for (int layer = 0; layer < tools.length; layer++) {
            EDGES.due(tools[layer], x, "route", tools.length, layer);
        }
    }

    // ---- promise 19: offset

    private static void offsetToolFrom0To3() {
        EDGES.bounds(Edges::used, UNKNOWN, 0, 3, 0, "offset", 0, 2, 7);
    }

    private static void offsetLayerFrom0To5() {
        EDGES.bounds(Edges::used, OUTSIDE, 0, 5, 1, "offset", 0, 2, 7);
        EDGES.bounds(Edges::used, OUTSIDE, 0, 5, 1, "offset", 3, 2, 7);
    }

    private static void offsetFromMinus999To999() {
        EDGES.bounds(Edges::used, OUTSIDE, -999, 999, 2, "offset", 0, 2, 7);
        EDGES.bounds(Edges::used, OUTSIDE, -999, 999, 2, "offset", 3, 5, 7);
        FieldAfterField x = new FieldAfterField();
        EDGES.due(0, x, "offset", 3, 5, 999);
        EDGES.due(999, x, "offset", 3, 5, -999);
        EDGES.due(-999, x, "offset", 3, 5, 0);
        EDGES.due(0, x, "offset", 3, 5, 0);
    }

    private static void offsetIsUnknownAheadOfOutside() {
        EDGES.refused(Edges::used, UNKNOWN, "offset", 4, 6, 1000);
        EDGES.refused(Edges::used, UNKNOWN, "offset", -1, -1, 0);
        EDGES.refused(Edges::used, UNKNOWN, "offset", 4, 0, -1000);
    }

    private static void eachOffsetOnItsOwn() {
        FieldAfterField x = new FieldAfterField();
        for (int n = 0; n < 24; n++) {
            EDGES.due(0, x, "offset", n / 6, n % 6, n - 999);
        }
        for (int n = 0; n < 24; n++) {
            EDGES.due(n - 999, x, "offset", n / 6, n % 6, 999 - n);
        }
        for (int n = 0; n < 24; n++) {
            EDGES.due(999 - n, x, "offset", n / 6, n % 6, 0);
        }
    }

    // ---- promise 20: rule

    private static void ruleWhatFrom0To1() {
        EDGES.bounds(Edges::used, OUTSIDE, 0, 1, 0, "rule", 0, 3);
        EDGES.bounds(FieldAfterField::new, OUTSIDE, 0, 1, 0, "rule", 0, 6);
    }

    private static void budgetFrom0To1998() {
        EDGES.bounds(Edges::used, OUTSIDE, 0, 1998, 1, "rule", 0, 3);
        EDGES.bounds(FieldAfterField::new, OUTSIDE, 0, 1998, 1, "rule", 0, 3);
        EDGES.due(100, new FieldAfterField(), "rule", 0, 100);
    }

    private static void capFrom1To6() {
        EDGES.bounds(Edges::used, OUTSIDE, 1, 6, 1, "rule", 1, 3);
        EDGES.bounds(FieldAfterField::new, OUTSIDE, 1, 6, 1, "rule", 1, 3);
        EDGES.due(6, new FieldAfterField(), "rule", 1, 6);
    }

    private static void ruleTellsWhatItWas() {
        FieldAfterField x = new FieldAfterField();
        EDGES.due(100, x, "rule", 0, 0);
        EDGES.due(6, x, "rule", 1, 1);
        EDGES.due(OUTSIDE, x, "rule", 0, 1999);
        EDGES.due(OUTSIDE, x, "rule", 1, 0);
        EDGES.due(0, x, "rule", 0, 1998);
        EDGES.due(1, x, "rule", 1, 6);
        EDGES.due(OUTSIDE, x, "rule", 0, -1);
        EDGES.due(OUTSIDE, x, "rule", 1, 7);
        EDGES.due(1998, x, "rule", 0, 5);
        EDGES.due(6, x, "rule", 1, 5);
    }

    // ---- promise 21: route

    private static void routeNFrom1To6() {
        EDGES.bounds(FieldAfterField::new, OUTSIDE, 1, 6, 0, "route", 3, NONE);
        EDGES.bounds(FieldAfterField::new, OUTSIDE, 1, 6, 0, "route", 3, 0);
        EDGES.due(0, Edges.used(), "route", 2, NONE);
        EDGES.due(NOT, Edges.used(), "route", 3, NONE);
    }

    private static void routeLayerFrom0ToNLess1() {
        for (int n = 1; n <= 6; n++) {
            EDGES.bounds(FieldAfterField::new, OUTSIDE, NONE, n - 1, 1, "route", n, 0);
        }
        EDGES.bounds(Edges::used, OUTSIDE, NONE, 1, 1, "route", 2, 0);
    }

    private static void routeOfNone() {
        FieldAfterField x = alike(0, 30, 60);
        EDGES.due(0, x, "route", 1, NONE);
        EDGES.due(30, x, "route", 2, NONE);
        EDGES.due(60, x, "route", 3, NONE);
        EDGES.due(0, x, "route", 3, 0);
        EDGES.due(OUTSIDE, x, "route", 3, -2);
    }

    private static void routeThatThereIsNot() {
        FieldAfterField x = alike(0, 1);
        x.rule(0, 0);
        EDGES.due(NOT, x, "route", 2, NONE);
        EDGES.due(NOT, x, "route", 2, 0);
        EDGES.due(NOT, x, "route", 2, 1);
        EDGES.due(NOT, x, "route", 6, 5);
        route(x, 0, 0);
        EDGES.refused(Edges::used, NOT, "route", 3, 2);
        EDGES.refused(Edges::used, NOT, "route", 6, NONE);
        FieldAfterField capped = new FieldAfterField();
        capped.rule(1, 1);
        route(capped, 0, 0, 1, 2, 3);
        EDGES.due(NOT, capped, "route", 5, NONE);
        EDGES.due(NOT, capped, "route", 6, 0);
    }

    private static void routeIsOutsideAheadOfNot() {
        EDGES.refused(Edges::used, OUTSIDE, "route", 3, 3);
        EDGES.refused(Edges::used, OUTSIDE, "route", 3, -2);
        EDGES.refused(Edges::used, OUTSIDE, "route", 7, 2);
        EDGES.refused(Edges::used, OUTSIDE, "route", 0, 0);
    }

    private static void aStepAtTheBudget() {
        route(alike(0, 100), 100, 0, 0);
        EDGES.due(NOT, alike(0, 101), "route", 2, NONE);
        route(alike(0, -100), 100, 0, 0);
        EDGES.due(NOT, alike(0, -101), "route", 2, NONE);
        FieldAfterField x = alike(999, -999);
        EDGES.due(NOT, x, "route", 2, NONE);
        x.rule(0, 1997);
        EDGES.due(NOT, x, "route", 2, NONE);
        x.rule(0, 1998);
        route(x, 1998, 0, 0);
        FieldAfterField level = level(0, 0, 0, 0);
        level.rule(0, 0);
        route(level, 0, 0, 0, 0, 0, 0, 0);
        // The budget is for each step, not for their sum.
        route(alike(0, 100, 200, 300, 400, 500), 500, 0, 0, 0, 0, 0, 0);
    }

    private static void asManyLayersAsTheCap() {
        int[][] want = {{0, 0, 0, 0, 0, 0}, {0, 0, 0, 0, 0, 1}, {0, 0, 0, 0, 1, 1}, {0, 0, 0, 1, 1, 1},
            {0, 0, 1, 1, 2, 2}};
        int[] sums = {0, 1, 1, 1, 9};
        for (int less = 0; less <= 4; less++) {
            FieldAfterField x = level(0, 1, 9, 50);
            x.rule(1, 6 - less);
            route(x, sums[less], want[less]);
        }
        FieldAfterField once = level(0, 1, 9, 50);
        once.rule(1, 1);
        route(once, 0, 0);
        route(once, 50, 0, 1, 2, 3);
        EDGES.due(NOT, once, "route", 5, 4);
        // A tool's layers count wherever they lie, not side by side alone.
        FieldAfterField apart = of(new int[] {0, 500, 0, 500, 0}, new int[] {-500, 0, -500, 0, -500},
                new int[] {800, -800, 800, -800, 30}, new int[] {-800, 800, -800, 800, -800});
        route(apart, 0, 0, 1, 0, 1, 0);
        apart.rule(1, 2);
        route(apart, 30, 0, 1, 0, 1, 2);
    }

    private static void stepsUpAndDown() {
        route(alike(0, 60, 0, -60, 0, 60), 300, 0, 0, 0, 0, 0, 0);
        FieldAfterField x = alike(-50, 50);
        route(x, 100, 0, 0);
        x.offset(2, 1, -49);
        route(x, 1, 0, 2);
        x.offset(3, 0, -49);
        route(x, 0, 3, 2);
    }

    private static void leastAndGreatestSums() {
        route(new FieldAfterField(), 0, 0, 0, 0, 0, 0, 0);
        FieldAfterField x = alike(999, -999, 999, -999, 999, -999);
        x.rule(0, 1998);
        route(x, 9990, 0, 0, 0, 0, 0, 0);
        // The nearest step at first is dearer in the end.
        FieldAfterField y = of(new int[] {0, 10, 70}, new int[] {500, -20, -25}, new int[] {900, 300, 400},
                new int[] {-500, -400, -300});
        route(y, 10, 0, 0);
        route(y, 25, 0, 1, 1);
    }

    private static void ofSeveralTheFirst() {
        route(new FieldAfterField(), 0, 0);
        route(new FieldAfterField(), 0, 0, 0, 0, 0, 0, 0);
        FieldAfterField x = alike(0, 0, 0);
        x.offset(0, 0, 5);
        route(x, 0, 1, 0, 0);
        x.offset(0, 2, 7);
        route(x, 0, 1, 0, 1);
        x.rule(1, 1);
        route(x, 0, 1, 0, 2);
        x.offset(0, 0, 0);
        route(x, 0, 0, 1, 2);
        // 3 and then 0, or 2 and then 1, or 2 and then 3: the first layer's lesser tool is first.
        route(of(new int[] {90, 9}, new int[] {80, 10}, new int[] {10, 70}, new int[] {9, 10}), 0, 2, 1);
    }
}
