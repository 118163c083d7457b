/** Promises 13 to 18: lot, back, mend, gain, state, advice. */
public final class LotsTest {
    private static final int UNKNOWN = -100001, OUTSIDE = -100002;
    private static final Check CHECK = new Check("LotsTest");

    public static void main(String[] args) {
        lots();
        backs();
        lateAsInTime();
        toolsApart();
        cuts();
        gains();
        mended();
        mendedTwice();
        advices();
        CHECK.end();
    }

    private static void lots() {
        FieldAfterField x = new FieldAfterField();
        CHECK.due("lot(0, 9999)", x.lot(0, 9999), 0);
        CHECK.due("lot(3, -9999)", x.lot(3, -9999), 1);
        CHECK.due("lot(0, 10000)", x.lot(0, 10000), OUTSIDE);
        CHECK.due("lot(0, -10000)", x.lot(0, -10000), OUTSIDE);
        CHECK.due("lot(-1, 0)", x.lot(-1, 0), UNKNOWN);
        CHECK.due("lot(4, 0)", x.lot(4, 0), UNKNOWN);
        CHECK.due("lot(4, 10000)", x.lot(4, 10000), UNKNOWN);
        CHECK.due("count(4)", x.count(4), 2);
        CHECK.due("lot(2, 0)", x.lot(2, 0), 2);
    }

    private static void backs() {
        FieldAfterField x = new FieldAfterField();
        CHECK.due("back(0, 0) without lots", x.back(0, 0), UNKNOWN);
        x.lot(1, 0);
        CHECK.due("back(0, 9999)", x.back(0, 9999), 1);
        CHECK.due("state(1, 1)", x.state(1, 1), 4999500);
        CHECK.due("back(0, -9999)", x.back(0, -9999), 1);
        CHECK.due("state(1, 1), another in its place", x.state(1, 1), -4999500);
        CHECK.due("back(0, 10000)", x.back(0, 10000), OUTSIDE);
        CHECK.due("back(0, -10000)", x.back(0, -10000), OUTSIDE);
        CHECK.due("back(1, 0)", x.back(1, 0), UNKNOWN);
        CHECK.due("back(-1, 10000)", x.back(-1, 10000), UNKNOWN);
        CHECK.due("state(1, 1), as it was", x.state(1, 1), -4999500);
        CHECK.due("count(5)", x.count(5), 1);
    }

    private static void lateAsInTime() {
        FieldAfterField inTime = new FieldAfterField();
        FieldAfterField late = new FieldAfterField();
        int[] reads = {40, -13, 77, 5, 1000, -999};
        for (int n = 0; n < 6; n++) {
            inTime.lot(n % 2, n);
            inTime.back(n, reads[n]);
            late.lot(n % 2, n);
        }
        for (int n = 5; n >= 0; n--) {
            late.back(n, reads[n]);
        }
        for (int n = 0; n <= 6; n++) {
            CHECK.due("late: state(0, " + n + ")", late.state(0, n), inTime.state(0, n));
            CHECK.due("late: state(1, " + n + ")", late.state(1, n), inTime.state(1, n));
        }
        // 40 less 0, then 77 less 2, then 1000 less 4, by halves.
        CHECK.due("late: state(0, 1)", late.state(0, 1), 20000);
        CHECK.due("late: state(0, 3)", late.state(0, 3), 47500);
        CHECK.due("late: state(0, 6)", late.state(0, 6), 521750);
    }

    private static void toolsApart() {
        FieldAfterField x = new FieldAfterField();
        for (int tool = 0; tool < 4; tool++) {
            x.lot(tool, 0);
            x.back(tool, 2 * tool + 2);
        }
        for (int tool = 0; tool < 4; tool++) {
            CHECK.due("apart: state(" + tool + ", 4)", x.state(tool, 4), 1000 * (tool + 1));
            CHECK.due("apart: state(" + tool + ", " + tool + ")", x.state(tool, tool), 0);
        }
        x.mend(2);
        CHECK.due("apart: mended", x.state(2, 4), 0);
        CHECK.due("apart: not mended", x.state(1, 4), 2000);
    }

    private static void cuts() {
        FieldAfterField x = new FieldAfterField();
        x.gain(1);
        x.lot(0, 0);
        x.back(0, 3);
        CHECK.due("cut: 3000 / 16", x.state(0, 1), 187);
        x.lot(0, 0);
        x.back(1, 0);
        // 187 and (-187) / 16, which is cut to -11.
        CHECK.due("cut: -187 / 16", x.state(0, 2), 176);
        x.back(0, -3);
        CHECK.due("cut: -3000 / 16", x.state(0, 1), -187);
        CHECK.due("cut: 187 / 16", x.state(0, 2), -176);
    }

    private static void gains() {
        FieldAfterField x = new FieldAfterField();
        x.lot(0, 10);
        x.back(0, 26);
        int was = 8;
        for (int v = 1; v <= 16; v++) {
            CHECK.due("gain(" + v + ")", x.gain(v), was);
            CHECK.due("gain " + v + ": state(0, 1)", x.state(0, 1), 1000 * v);
            was = v;
        }
        CHECK.due("gain(0)", x.gain(0), OUTSIDE);
        CHECK.due("gain(17)", x.gain(17), OUTSIDE);
        CHECK.due("gain(-1)", x.gain(-1), OUTSIDE);
        CHECK.due("gain(16) at last", x.gain(16), 16);
    }

    private static void mended() {
        FieldAfterField x = new FieldAfterField();
        x.gain(16);
        x.lot(0, 0);
        x.lot(0, 0);
        CHECK.due("mend(0)", x.mend(0), 1);
        x.lot(0, 0);
        x.back(0, 5);
        CHECK.due("mended: ahead of 1", x.state(0, 1), 5000);
        CHECK.due("mended: ahead of 2", x.state(0, 2), 0);
        CHECK.due("mended: ahead of 3", x.state(0, 3), 0);
        CHECK.due("mended: advice", x.advice(0), 0);
        x.gain(8);
        x.back(1, 9);
        x.back(2, 4);
        CHECK.due("mended: a late one stays behind", x.state(0, 2), 0);
        CHECK.due("mended: from 0 on", x.state(0, 3), 2000);
        CHECK.due("mend(-1)", x.mend(-1), UNKNOWN);
        CHECK.due("mend(4)", x.mend(4), UNKNOWN);
        CHECK.due("mended: as it was", x.state(0, 3), 2000);
    }

    private static void mendedTwice() {
        FieldAfterField x = new FieldAfterField();
        x.gain(16);
        x.mend(1);
        for (int n = 0; n < 6; n++) {
            x.lot(1, 0);
            x.back(n, n + 1);
            if (n == 1 || n == 3) {
                x.mend(1);
                x.mend(1);
            }
        }
        x.gain(8);
        int[] want = {0, 500, 0, 1500, 0, 2500, 4250};
        for (int n = 0; n <= 6; n++) {
            CHECK.due("mended twice: state(1, " + n + ")", x.state(1, n), want[n]);
        }
    }

    private static void advices() {
        FieldAfterField x = new FieldAfterField();
        x.lot(2, 0);
        int[][] want = {{1, 0}, {2, -1}, {3, -1}, {4, -2}, {-1, 0}, {-2, 1}, {-3, 1}, {-4, 2}, {0, 0}};
        for (int[] row : want) {
            x.back(0, row[0]);
            CHECK.due("advice(2) after a read of " + row[0], x.advice(2), row[1]);
        }
        CHECK.due("advice(3)", x.advice(3), 0);
        CHECK.due("advice(-1)", x.advice(-1), UNKNOWN);
        CHECK.due("advice(4)", x.advice(4), UNKNOWN);
    }

}
