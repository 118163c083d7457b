/** Promises 19 to 21: offset, rule, route. */
public final class ToolsTest {
    private static final int NONE = -1, UNKNOWN = -100001, OUTSIDE = -100002, NOT = -100003;
    private static final Check CHECK = new Check("ToolsTest");

    public static void main(String[] args) {
        offsets();
        rules();
        leastSum();
        theFirstOfLikeOnes();
        budgetForEachStep();
        cap();
        noRoute();
        CHECK.end();
    }

    private static void route(FieldAfterField x, String what, int sum, int... tools) {
        CHECK.due(what + ": route(" + tools.length + ", NONE)", x.route(tools.length, NONE), sum);
        for (int layer = 0; layer < tools.length; layer++) {
            CHECK.due(what + ": route(" + tools.length + ", " + layer + ")", x.route(tools.length, layer),
                    tools[layer]);
        }
    }

    /** A row for each tool, a number for each layer. */
    private static FieldAfterField with(int[]... rows) {
        FieldAfterField x = new FieldAfterField();
        for (int tool = 0; tool < rows.length; tool++) {
            for (int layer = 0; layer < rows[tool].length; layer++) {
                x.offset(tool, layer, rows[tool][layer]);
            }
        }
        return x;
    }

    private static void offsets() {
        FieldAfterField x = new FieldAfterField();
        CHECK.due("offset(0, 0, 999)", x.offset(0, 0, 999), 0);
        CHECK.due("offset(0, 0, -999)", x.offset(0, 0, -999), 999);
        CHECK.due("offset(0, 0, 1000)", x.offset(0, 0, 1000), OUTSIDE);
        CHECK.due("offset(0, 0, -1000)", x.offset(0, 0, -1000), OUTSIDE);
        CHECK.due("offset(0, 6, 0)", x.offset(0, 6, 0), OUTSIDE);
        CHECK.due("offset(0, -1, 0)", x.offset(0, -1, 0), OUTSIDE);
        CHECK.due("offset(4, 6, 0)", x.offset(4, 6, 0), UNKNOWN);
        CHECK.due("offset(-1, 0, 0)", x.offset(-1, 0, 0), UNKNOWN);
        CHECK.due("offset(0, 0, 0)", x.offset(0, 0, 0), -999);
        for (int n = 0; n < 24; n++) {
            CHECK.due("offset(" + n / 6 + ", " + n % 6 + ")", x.offset(n / 6, n % 6, n + 1), 0);
        }
        for (int n = 0; n < 24; n++) {
            CHECK.due("offset(" + n / 6 + ", " + n % 6 + ") again", x.offset(n / 6, n % 6, 0), n + 1);
        }
    }

    private static void rules() {
        FieldAfterField x = new FieldAfterField();
        CHECK.due("rule(0, 0)", x.rule(0, 0), 100);
        CHECK.due("rule(0, 1998)", x.rule(0, 1998), 0);
        CHECK.due("rule(0, 1999)", x.rule(0, 1999), OUTSIDE);
        CHECK.due("rule(0, -1)", x.rule(0, -1), OUTSIDE);
        CHECK.due("rule(1, 1)", x.rule(1, 1), 6);
        CHECK.due("rule(1, 6)", x.rule(1, 6), 1);
        CHECK.due("rule(1, 7)", x.rule(1, 7), OUTSIDE);
        CHECK.due("rule(1, 0)", x.rule(1, 0), OUTSIDE);
        CHECK.due("rule(2, 1)", x.rule(2, 1), OUTSIDE);
        CHECK.due("rule(-1, 1)", x.rule(-1, 1), OUTSIDE);
        CHECK.due("rule(0, 5) at last", x.rule(0, 5), 1998);
        CHECK.due("rule(1, 5) at last", x.rule(1, 5), 6);
    }

    private static void leastSum() {
        // Going with the nearest step first would end up with 45.
        FieldAfterField x = with(new int[] {0, 10, 70}, new int[] {500, -20, -25}, new int[] {900, 300, 400},
                new int[] {-500, -400, -300});
        route(x, "least", 10, 0, 0);
        route(x, "least", 25, 0, 1, 1);
        x.offset(1, 2, -130);
        route(x, "least within the budget", 70, 0, 0, 0);
        x.offset(0, 2, 111);
        route(x, "all that is left", 200, 3, 3, 3);
    }

    private static void theFirstOfLikeOnes() {
        FieldAfterField x = with(new int[] {5, 0, 0}, new int[] {0, 0, 7}, new int[] {0, 0, 0},
                new int[] {0, 0, 0});
        route(x, "first", 0, 1, 0, 0);
        x.rule(1, 1);
        route(x, "first, each once", 0, 1, 0, 2);
        x.offset(0, 0, 0);
        route(x, "first, again", 0, 0, 1, 2);
    }

    private static void budgetForEachStep() {
        FieldAfterField x = with(new int[] {0, 100, 0}, new int[] {0, 101, 202}, new int[] {0, 101, 202},
                new int[] {0, 101, 202});
        route(x, "budget 100", 200, 0, 0, 0);
        x.rule(0, 99);
        CHECK.due("budget 99", x.route(3, NONE), NOT);
        x.rule(0, 102);
        route(x, "budget 102", 200, 0, 0, 0);
        x.offset(0, 2, -3);
        route(x, "budget 102, too far to 0", 202, 0, 0, 1);
        x = with(new int[] {-999, 999}, new int[] {-999, 999}, new int[] {-999, 999}, new int[] {-999, 999});
        CHECK.due("budget 100, greatest step", x.route(2, NONE), NOT);
        x.rule(0, 1997);
        CHECK.due("budget 1997, greatest step", x.route(2, NONE), NOT);
        x.rule(0, 1998);
        route(x, "budget 1998, greatest step", 1998, 0, 0);
        route(x, "a single layer", 0, 0);
    }

    private static void cap() {
        FieldAfterField x = with(new int[6], new int[] {1, 1, 1, 1, 1, 1}, new int[] {9, 9, 9, 9, 9, 9},
                new int[] {50, 50, 50, 50, 50, 50});
        route(x, "cap 6", 0, 0, 0, 0, 0, 0, 0);
        x.rule(1, 5);
        route(x, "cap 5", 1, 0, 0, 0, 0, 0, 1);
        x.rule(1, 3);
        route(x, "cap 3", 1, 0, 0, 0, 1, 1, 1);
        x.rule(1, 2);
        route(x, "cap 2", 9, 0, 0, 1, 1, 2, 2);
        x.rule(1, 1);
        route(x, "cap 1", 50, 0, 1, 2, 3);
        CHECK.due("cap 1, five layers", x.route(5, NONE), NOT);
        CHECK.due("cap 1, six layers", x.route(6, 0), NOT);
        route(x, "cap 1, a single layer", 0, 0);
    }

    private static void noRoute() {
        FieldAfterField x = with(new int[] {0, 1}, new int[] {0, 1}, new int[] {0, 1}, new int[] {0, 1});
        x.rule(0, 0);
        CHECK.due("none: route(2, NONE)", x.route(2, NONE), NOT);
        CHECK.due("none: route(2, 0)", x.route(2, 0), NOT);
        CHECK.due("none: route(1, 0)", x.route(1, 0), 0);
        x.offset(3, 1, 0);
        route(x, "one", 0, 0, 3);
        x.rule(1, 1);
        route(x, "one, each once", 0, 0, 3);
    }
}
