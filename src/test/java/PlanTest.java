/** Promise 12: plan. */
public final class PlanTest {
    private static final int NOT = -100003;
    private static final Check CHECK = new Check("PlanTest");

    public static void main(String[] args) {
        ofOneTerm();
        ofTheWafer();
        ofTheField();
        theFirstOfLikeOnes();
        lostAndOutOnesToo();
        twelve();
        CHECK.end();
    }

    private static void plan(FieldAfterField x, int k, int model, long set, long upper, long lower) {
        String call = "plan(" + k + ", " + model + ", ";
        CHECK.due(call + "0)", x.plan(k, model, 0), set);
        CHECK.due(call + "1)", x.plan(k, model, 1), upper);
        CHECK.due(call + "2)", x.plan(k, model, 2), lower);
    }

    private static FieldAfterField with(int[] f, int[] g) {
        FieldAfterField x = new FieldAfterField();
        for (int m = 0; m < f.length; m++) {
            x.mark(f[m], g[m], 0, 0);
        }
        return x;
    }

    private static void ofOneTerm() {
        FieldAfterField x = with(new int[7], new int[7]);
        for (int k = 1; k <= 6; k++) {
            plan(x, k, 0, (1 << k) - 1, 1, k);
        }
    }

    private static void ofTheWafer() {
        FieldAfterField x = with(new int[] {0, 1, 0, 2, 0}, new int[] {0, 0, 1, 0, 2});
        // With the three outer ones every mark lies between them, so none is told worse than they are.
        plan(x, 3, 1, 1 + 8 + 16, 1, 1);
        plan(x, 2, 1, NOT, NOT, NOT);
        plan(x, 3, 2, NOT, NOT, NOT);
        CHECK.due("the whole of five: set", x.plan(5, 1, 0), 31);
        CHECK.due("six of five", x.plan(6, 1, 0), NOT);
    }

    private static void ofTheField() {
        FieldAfterField x = new FieldAfterField();
        x.mark(0, 0, 0, 0);
        x.mark(1, 0, 3, 0);
        x.mark(1, 1, 0, 3);
        x.mark(1, 2, 1, 1);
        plan(x, 3, 2, 7, 1, 1);
        CHECK.due("by the wafer another", x.plan(3, 1, 0), 1 + 2 + 8);
    }

    private static void theFirstOfLikeOnes() {
        FieldAfterField x = with(new int[] {-1, 0, -1, 1, 1}, new int[] {1, -1, -1, 0, 1});
        // {0, 1, 4}, {0, 2, 3} and {0, 2, 4} are alike; as whole numbers 19, 13 and 21.
        plan(x, 3, 1, 19, 3, 2);
        FieldAfterField y = with(new int[] {0, -1, 1, 1, -1}, new int[] {-1, 0, -1, 1, 1});
        plan(y, 3, 1, 25, 3, 2);
    }

    private static void lostAndOutOnesToo() {
        FieldAfterField x = with(new int[] {-2, 2, 0, 0, 1}, new int[] {-2, -2, 2, 0, 0});
        for (int m = 0; m < 5; m++) {
            x.read(m, m == 0 ? 900 : 0, 0);
        }
        long all = x.plan(3, 1, 0);
        CHECK.due("the outer three", all, 7);
        x.judge(0, 500);
        CHECK.due("one is out", x.told(0, 7), 1);
        CHECK.due("plan with one out", x.plan(3, 1, 0), all);
        x.lose(1);
        CHECK.due("plan with one lost", x.plan(3, 1, 0), all);
    }

    private static void twelve() {
        int[] f = {0, 1, 2, 3, 4, 0, 1, 2, 5, -5, 5, -5};
        int[] g = {0, 1, 0, 1, 0, 2, 2, 2, 5, 5, -5, -5};
        FieldAfterField x = with(f, g);
        plan(x, 4, 1, 0xF00, 3, 4);
        plan(x, 1, 0, 1, 1, 1);
    }
}
