/** Promises 7 to 11: det, fit, rest, spread, judge. */
public final class FitsTest {
    private static final int UNKNOWN = -100001, OUTSIDE = -100002, NOT = -100003;
    private static final Check CHECK = new Check("FitsTest");

    private static final int[][] PLACES = {{-5, 2, 3, -3}, {5, -1, -3, 1}, {0, 5, 0, 2}, {3, -5, 1, 1},
        {-2, 0, -1, -2}};
    private static final int[][] READS = {{999, -3}, {-999, 8}, {17, -999}, {-4, 999}, {250, 0}};

    public static void main(String[] args) {
        factors();
        rests();
        spreads();
        dets();
        lostAndOutDoNotCount();
        doesNotStand();
        judgeByBothWays();
        judgeLikeOnes();
        judgeLimit();
        judgeAnewAndNot();
        judgeStepByStep();
        CHECK.end();
    }

    private static FieldAfterField five() {
        FieldAfterField x = new FieldAfterField();
        for (int m = 0; m < 5; m++) {
            x.mark(PLACES[m][0], PLACES[m][1], PLACES[m][2], PLACES[m][3]);
            x.read(m, READS[m][0], READS[m][1]);
        }
        return x;
    }

    private static void fraction(String call, long upper, long lower, long wantUpper, long wantLower) {
        CHECK.due(call + ", the upper number", upper, wantUpper);
        CHECK.due(call + ", the lower number", lower, wantLower);
    }

    private static void factors() {
        FieldAfterField x = five();
        long[][][] want = {
            {{0, 0, 0}, {263, 5}}, {{0, 1, 0}, {1, 1}},
            {{1, 0, 0}, {1278779, 12647}}, {{1, 0, 1}, {-2431501, 12647}}, {{1, 0, 2}, {-636233, 12647}},
            {{1, 1, 0}, {683777, 12647}}, {{1, 1, 1}, {-674781, 12647}}, {{1, 1, 2}, {-2680869, 12647}},
            {{2, 0, 0}, {40977, 1475}}, {{2, 0, 1}, {340957, 1475}}, {{2, 0, 2}, {-36608, 295}},
            {{2, 1, 0}, {-9451, 1475}}, {{2, 1, 1}, {46659, 1475}}, {{2, 1, 2}, {-10926, 295}}};
        for (long[][] row : want) {
            int model = (int) row[0][0];
            int way = (int) row[0][1];
            int t = (int) row[0][2];
            fraction("fit(" + model + ", " + way + ", " + t + ")", x.fit(model, way, t, 0),
                    x.fit(model, way, t, 1), row[1][0], row[1][1]);
        }
    }

    private static void rests() {
        FieldAfterField x = five();
        long[][][] want = {
            {{4732, 5}, {-5258, 5}, {-178, 5}, {-283, 5}, {987, 5}},
            {{-4, 1}, {7, 1}, {-1000, 1}, {998, 1}, {-1, 1}},
            {{470535, 12647}, {-2391860, 12647}, {2117385, 12647}, {2783971, 12647}, {-2980031, 12647}},
            {{1266115, 12647}, {110435, 12647}, {86215, 12647}, {570574, 12647}, {-2033339, 12647}},
            {{-139443, 1475}, {-308591, 1475}, {350178, 1475}, {-204794, 1475}, {12106, 59}},
            {{-298841, 1475}, {215858, 1475}, {-1354814, 1475}, {1490947, 1475}, {-2126, 59}}};
        for (int n = 0; n < 6; n++) {
            for (int m = 0; m < 5; m++) {
                fraction("rest(" + n / 2 + ", " + n % 2 + ", " + m + ")", x.rest(n / 2, n % 2, m, 0),
                        x.rest(n / 2, n % 2, m, 1), want[n][m][0], want[n][m][1]);
            }
        }
    }

    private static void spreads() {
        FieldAfterField x = five();
        long[][] want = {{10224866, 5}, {1996070, 1}, {2139384516L, 12647}, {480959776, 12647},
            {251413554, 1475}, {2845538626L, 1475}};
        for (int n = 0; n < 6; n++) {
            fraction("spread(" + n / 2 + ", " + n % 2 + ")", x.spread(n / 2, n % 2, 0),
                    x.spread(n / 2, n % 2, 1), want[n][0], want[n][1]);
        }
    }

    private static void dets() {
        FieldAfterField x = five();
        CHECK.due("det(0)", x.det(0), 5);
        CHECK.due("det(1)", x.det(1), 12647);
        CHECK.due("det(2)", x.det(2), 1475);
        CHECK.due("det(-1)", x.det(-1), OUTSIDE);
        CHECK.due("det(3)", x.det(3), OUTSIDE);
    }

    private static void lostAndOutDoNotCount() {
        FieldAfterField x = new FieldAfterField();
        for (int m = 0; m < 5; m++) {
            x.mark(m - 2, m % 2, m % 3, m / 3);
        }
        int[] along = {10, 10, 10, 310, 77};
        for (int m = 0; m < 5; m++) {
            x.read(m, along[m], 0);
        }
        CHECK.due("all count: det(0)", x.det(0), 5);
        x.lose(4);
        CHECK.due("one lost: det(0)", x.det(0), 4);
        CHECK.due("one lost: fit", x.fit(0, 0, 0, 0), 85);
        CHECK.due("rest of the lost one", x.rest(0, 0, 4, 0), NOT);
        CHECK.due("judge(0, 100)", x.judge(0, 100), 1);
        CHECK.due("one out: det(0)", x.det(0), 3);
        CHECK.due("one out: fit", x.fit(0, 0, 0, 0), 10);
        CHECK.due("rest of the one that is out", x.rest(0, 0, 3, 0), 300);
        CHECK.due("one out: spread", x.spread(0, 0, 0), 0);
        CHECK.due("one out: spread, the lower", x.spread(0, 0, 1), 1);
        x.read(3, 13, 0);
        CHECK.due("read anew: det(0)", x.det(0), 4);
        fraction("read anew: fit", x.fit(0, 0, 0, 0), x.fit(0, 0, 0, 1), 43, 4);
    }

    private static void doesNotStand() {
        FieldAfterField x = new FieldAfterField();
        CHECK.due("none: fit", x.fit(0, 0, 0, 0), NOT);
        CHECK.due("none: spread", x.spread(0, 0, 0), NOT);
        CHECK.due("none: rest", x.rest(0, 0, 0, 0), UNKNOWN);
        CHECK.due("none: judge", x.judge(0, 1), NOT);
        for (int m = 0; m < 4; m++) {
            x.mark(m, m, m - 1, 0);
            x.read(m, m, m);
        }
        for (int model = 1; model <= 2; model++) {
            CHECK.due("in a line: det(" + model + ")", x.det(model), 0);
            CHECK.due("in a line: fit(" + model + ")", x.fit(model, 0, 0, 1), NOT);
            CHECK.due("in a line: rest(" + model + ")", x.rest(model, 1, 0, 1), NOT);
            CHECK.due("in a line: spread(" + model + ")", x.spread(model, 1, 1), NOT);
            CHECK.due("in a line: judge(" + model + ")", x.judge(model, 1), NOT);
        }
        fraction("in a line: fit(0)", x.fit(0, 0, 0, 0), x.fit(0, 0, 0, 1), 3, 2);
        x.mark(0, 1, 0, 1);
        CHECK.due("a lost one off the line", x.det(1), 0);
        x.read(4, 0, 0);
        CHECK.due("off the line: det(1)", x.det(1), 20);
        CHECK.due("off the line: det(2)", x.det(2), 20);
    }

    private static void judgeByBothWays() {
        FieldAfterField x = new FieldAfterField();
        int[][] reads = {{0, 0}, {9, 0}, {0, -30}, {0, 0}, {0, 0}};
        for (int m = 0; m < 5; m++) {
            x.mark(0, 0, 0, 0);
            x.read(m, reads[m][0], reads[m][1]);
        }
        CHECK.due("both ways: judge(0, 10)", x.judge(0, 10), 1);
        CHECK.due("both ways: the one across", x.told(2, 7), 1);
        CHECK.due("both ways: the one along", x.told(1, 7), 0);
        CHECK.due("both ways: judge(0, 6)", x.judge(0, 6), 2);
        CHECK.due("both ways: the one along too", x.told(1, 7), 1);
    }

    private static void judgeLikeOnes() {
        FieldAfterField x = new FieldAfterField();
        x.mark(0, 0, 0, 0);
        x.mark(0, 0, 0, 0);
        x.read(0, 0, 0);
        x.read(1, 10, 0);
        CHECK.due("like ones: judge(0, 4)", x.judge(0, 4), 1);
        CHECK.due("like ones: the first", x.told(0, 7), 1);
        CHECK.due("like ones: the other", x.told(1, 7), 0);
        CHECK.due("like ones: count(2)", x.count(2), 1);
        CHECK.due("like ones: count(3)", x.count(3), 1);
    }

    private static void judgeLimit() {
        FieldAfterField x = new FieldAfterField();
        for (int m = 0; m < 3; m++) {
            x.mark(0, 0, 0, 0);
        }
        x.read(0, 0, 0);
        x.read(1, 0, 0);
        x.read(2, 3, 0);
        CHECK.due("limit: rest 2, judge(0, 2)", x.judge(0, 2), 0);
        CHECK.due("limit: rest 2, judge(0, 1)", x.judge(0, 1), 1);
        x.read(2, 4, 0);
        CHECK.due("limit: rest 8/3, judge(0, 2)", x.judge(0, 2), 1);
        CHECK.due("limit: rest 8/3, judge(0, 3)", x.judge(0, 3), 0);
        x.read(0, -999, 0);
        x.read(1, -999, 0);
        x.read(2, 999, 0);
        CHECK.due("limit: rest 1332, judge(0, 999)", x.judge(0, 999), 1);
    }

    private static void judgeAnewAndNot() {
        FieldAfterField x = new FieldAfterField();
        for (int m = 0; m < 4; m++) {
            x.mark(m, m, 0, 0);
            x.read(m, m == 2 ? 100 : 0, 0);
        }
        CHECK.due("anew: judge(0, 50)", x.judge(0, 50), 1);
        CHECK.due("not: judge(1, 50)", x.judge(1, 50), NOT);
        CHECK.due("not: outside first", x.judge(1, 0), OUTSIDE);
        CHECK.due("not: out stays", x.told(2, 7), 1);
        CHECK.due("not: count(2)", x.count(2), 1);
        CHECK.due("anew: judge(0, 75)", x.judge(0, 75), 0);
        CHECK.due("anew: back in", x.told(2, 7), 0);
        x.judge(0, 50);
        x.lose(0);
        x.lose(1);
        x.lose(3);
        CHECK.due("anew: none counts", x.count(3), 0);
        CHECK.due("anew: det(0)", x.det(0), 0);
        CHECK.due("anew: it stands with all", x.judge(0, 50), 0);
        CHECK.due("anew: it counts", x.count(3), 1);
    }

    private static void judgeStepByStep() {
        FieldAfterField x = new FieldAfterField();
        int[] along = {0, 1, 2, 40, 200, 3};
        for (int m = 0; m < 6; m++) {
            x.mark(0, 0, m % 2, m / 2);
            x.read(m, along[m], 0);
        }
        // By the mean of all six, 41, the first ones would be above 30 too.
        CHECK.due("steps: judge(0, 30)", x.judge(0, 30), 2);
        CHECK.due("steps: 200 is out", x.told(4, 7), 1);
        CHECK.due("steps: 40 is out", x.told(3, 7), 1);
        CHECK.due("steps: 0 counts", x.told(0, 7), 0);
        CHECK.due("steps: judge(0, 31)", x.judge(0, 31), 1);
    }
}
