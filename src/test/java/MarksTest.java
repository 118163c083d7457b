/** Promises 2 to 6: mark, read, lose, told, count. */
public final class MarksTest {
    private static final int UNKNOWN = -100001, OUTSIDE = -100002;
    private static final Check CHECK = new Check("MarksTest");

    public static void main(String[] args) {
        reads();
        lost();
        told();
        counts();
        fieldsThatCount();
        CHECK.end();
    }

    private static void reads() {
        FieldAfterField x = new FieldAfterField();
        CHECK.due("read(0, 0, 0) without marks", x.read(0, 0, 0), UNKNOWN);
        x.mark(0, 0, 0, 0);
        CHECK.due("read(0, 999, -999)", x.read(0, 999, -999), 1);
        CHECK.due("told(0, 4)", x.told(0, 4), 999);
        CHECK.due("told(0, 5)", x.told(0, 5), -999);
        CHECK.due("told(0, 6)", x.told(0, 6), 0);
        CHECK.due("read(0, -999, 999)", x.read(0, -999, 999), 1);
        CHECK.due("told(0, 4) again", x.told(0, 4), -999);
        CHECK.due("told(0, 5) again", x.told(0, 5), 999);
        CHECK.due("read(0, 1000, 0)", x.read(0, 1000, 0), OUTSIDE);
        CHECK.due("read(0, -1000, 0)", x.read(0, -1000, 0), OUTSIDE);
        CHECK.due("read(0, 0, 1000)", x.read(0, 0, 1000), OUTSIDE);
        CHECK.due("read(0, 0, -1000)", x.read(0, 0, -1000), OUTSIDE);
        CHECK.due("read(-1, 1000, 0)", x.read(-1, 1000, 0), UNKNOWN);
        CHECK.due("read(1, 0, 0)", x.read(1, 0, 0), UNKNOWN);
        CHECK.due("told(0, 4) at last", x.told(0, 4), -999);
        CHECK.due("told(0, 5) at last", x.told(0, 5), 999);
    }

    private static void lost() {
        FieldAfterField x = new FieldAfterField();
        CHECK.due("lose(0) without marks", x.lose(0), UNKNOWN);
        x.mark(0, 0, 0, 0);
        CHECK.due("lose(0), lost at first", x.lose(0), 0);
        x.read(0, 5, 6);
        CHECK.due("lose(0), read", x.lose(0), 1);
        CHECK.due("lose(0), lost", x.lose(0), 0);
        CHECK.due("lose(-1)", x.lose(-1), UNKNOWN);
        CHECK.due("lose(1)", x.lose(1), UNKNOWN);
        x.read(0, 0, 0);
        x.mark(0, 0, 0, 0);
        x.read(1, 10, 0);
        CHECK.due("judge(0, 4)", x.judge(0, 4), 1);
        CHECK.due("told(0, 7), out", x.told(0, 7), 1);
        CHECK.due("told(0, 6), out", x.told(0, 6), 0);
        CHECK.due("lose(0), out", x.lose(0), 1);
        CHECK.due("told(0, 7), lost", x.told(0, 7), 0);
        CHECK.due("told(0, 6), lost", x.told(0, 6), 1);
        CHECK.due("count(1)", x.count(1), 1);
        CHECK.due("count(2)", x.count(2), 0);
    }

    private static void told() {
        FieldAfterField x = new FieldAfterField();
        x.mark(-4, 5, -2, 3);
        x.mark(1, 2, 3, -1);
        x.read(1, 44, -55);
        int[][] want = {{-4, 5, -2, 3, 0, 0, 1, 0}, {1, 2, 3, -1, 44, -55, 0, 0}};
        for (int m = 0; m < 2; m++) {
            for (int what = 0; what < 8; what++) {
                CHECK.due("told(" + m + ", " + what + ")", x.told(m, what), want[m][what]);
            }
        }
        CHECK.due("told(0, -1)", x.told(0, -1), OUTSIDE);
        CHECK.due("told(0, 8)", x.told(0, 8), OUTSIDE);
        CHECK.due("told(2, 8)", x.told(2, 8), UNKNOWN);
        CHECK.due("told(-1, 0)", x.told(-1, 0), UNKNOWN);
        CHECK.due("told(greatest, 0)", x.told(Integer.MAX_VALUE, 0), UNKNOWN);
        x.lose(1);
        CHECK.due("told(1, 4), lost", x.told(1, 4), 0);
        CHECK.due("told(1, 5), lost", x.told(1, 5), 0);
        CHECK.due("told(1, 0), lost", x.told(1, 0), 1);
    }

    private static void counts() {
        FieldAfterField x = new FieldAfterField();
        for (int m = 0; m < 5; m++) {
            x.mark(m, 0, 0, 0);
        }
        x.read(0, 0, 0);
        x.read(1, 0, 0);
        x.read(2, 0, 0);
        x.read(3, 500, 0);
        x.judge(0, 200);
        x.lot(0, 0);
        x.lot(1, 0);
        x.lot(2, 0);
        x.back(1, 0);
        x.back(1, 4);
        int[] want = {5, 1, 1, 3, 3, 1, 3};
        for (int what = 0; what <= 6; what++) {
            CHECK.due("count(" + what + ")", x.count(what), want[what]);
        }
        CHECK.due("count(-1)", x.count(-1), OUTSIDE);
        CHECK.due("count(7)", x.count(7), OUTSIDE);
        x.read(3, 1, 1);
        CHECK.due("count(2), read anew", x.count(2), 0);
        CHECK.due("count(3), read anew", x.count(3), 4);
    }

    private static void fieldsThatCount() {
        FieldAfterField x = new FieldAfterField();
        int[][] fields = {{1, 2}, {2, 1}, {1, 2}, {1, 1}, {2, 2}, {-1, 2}};
        for (int[] field : fields) {
            x.mark(field[0], field[1], 1, 0);
        }
        CHECK.due("fields, all lost", x.count(6), 0);
        int[] want = {1, 2, 2, 3, 4, 5};
        for (int m = 0; m < 6; m++) {
            x.read(m, 0, m == 3 ? 90 : 0);
            CHECK.due("fields after reads of " + (m + 1), x.count(6), want[m]);
        }
        CHECK.due("judge(0, 70)", x.judge(0, 70), 1);
        CHECK.due("fields, one out", x.count(6), 4);
        x.lose(0);
        CHECK.due("fields, one of two lost", x.count(6), 4);
        x.lose(2);
        CHECK.due("fields, both lost", x.count(6), 3);
    }
}
