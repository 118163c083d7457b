/** Promises 1 to 6: a new object, mark, read, lose, told, count. */
public final class MarksTest {
    private static final int UNKNOWN = -100001, OUTSIDE = -100002, FULL = -100004;
    private static final Check CHECK = new Check("MarksTest");

    public static void main(String[] args) {
        newObject();
        objectsApart();
        markBounds();
        lastMark();
        reads();
        lost();
        told();
        counts();
        fieldsThatCount();
        CHECK.end();
    }

    private static void newObject() {
        FieldAfterField x = new FieldAfterField();
        for (int what = 0; what <= 6; what++) {
            CHECK.due("new: count(" + what + ")", x.count(what), 0);
        }
        CHECK.due("new: told(0, 0)", x.told(0, 0), UNKNOWN);
        CHECK.due("new: back(0, 0)", x.back(0, 0), UNKNOWN);
        CHECK.due("new: state(3, 1)", x.state(3, 1), OUTSIDE);
        for (int tool = 0; tool < 4; tool++) {
            CHECK.due("new: state(" + tool + ", 0)", x.state(tool, 0), 0);
            CHECK.due("new: advice(" + tool + ")", x.advice(tool), 0);
            for (int layer = 0; layer < 6; layer++) {
                CHECK.due("new: offset(" + tool + ", " + layer + ", 0)", x.offset(tool, layer, 0), 0);
            }
        }
        CHECK.due("new: gain(8)", x.gain(8), 8);
        CHECK.due("new: rule(0, 100)", x.rule(0, 100), 100);
        CHECK.due("new: rule(1, 6)", x.rule(1, 6), 6);
    }

    private static void objectsApart() {
        FieldAfterField x = new FieldAfterField();
        FieldAfterField y = new FieldAfterField();
        x.mark(1, 1, 1, 1);
        x.lot(0, 5);
        x.gain(3);
        x.rule(0, 7);
        x.offset(1, 1, 1);
        CHECK.due("apart: count(0)", y.count(0), 0);
        CHECK.due("apart: count(4)", y.count(4), 0);
        CHECK.due("apart: gain(8)", y.gain(8), 8);
        CHECK.due("apart: rule(0, 100)", y.rule(0, 100), 100);
        CHECK.due("apart: offset(1, 1, 0)", y.offset(1, 1, 0), 0);
    }

    private static void markBounds() {
        FieldAfterField x = new FieldAfterField();
        int[] most = {5, 5, 3, 3};
        for (int at = 0; at < 4; at++) {
            for (int sign = -1; sign <= 1; sign += 2) {
                int[] a = new int[4];
                a[at] = sign * most[at];
                int number = x.count(0);
                CHECK.due(Calls.text("mark", a), Calls.call(x, "mark", a), number);
                CHECK.due("told(" + number + ", " + at + ")", x.told(number, at), sign * most[at]);
                a[at] = sign * (most[at] + 1);
                CHECK.due(Calls.text("mark", a), Calls.call(x, "mark", a), OUTSIDE);
                a[at] = sign > 0 ? Integer.MAX_VALUE : Integer.MIN_VALUE;
                CHECK.due(Calls.text("mark", a), Calls.call(x, "mark", a), OUTSIDE);
            }
        }
        CHECK.due("bounds: count(0)", x.count(0), 8);
    }

    private static void lastMark() {
        FieldAfterField x = new FieldAfterField();
        for (int m = 0; m < 12; m++) {
            CHECK.due("mark number " + m, x.mark(0, 0, 0, 0), m);
        }
        CHECK.due("the 13th mark", x.mark(0, 0, 0, 0), FULL);
        CHECK.due("the 13th mark, outside", x.mark(0, 0, 0, 4), OUTSIDE);
        CHECK.due("full: count(0)", x.count(0), 12);
        CHECK.due("full: read(11, 1, 2)", x.read(11, 1, 2), 1);
        CHECK.due("full: read(12, 1, 2)", x.read(12, 1, 2), UNKNOWN);
        CHECK.due("full: told(11, 4)", x.told(11, 4), 1);
        CHECK.due("full: count(1)", x.count(1), 11);
    }

    private static void reads() {
        FieldAfterField x = new FieldAfterField();
        CHECK.due("read(0, 0, 0) without marks", x.read(0, 0, 0), UNKNOWN);
        x.mark(0, 0, 0, 0);
        CHECK.due("read(0, 999, -999)", x.read(0, 999, -999), 1);
        CHECK.due("told(0, 4)", x.told(0, 4), 999);
        CHECK.due("told(0, 5)", x.told(0, 5), -999);
        CHECK.due("told(0, 6)", x.told(0, 6), 0);
        CHECK.due("read(0, -999, 999)", x.read(0, -999, 999), 1);
        CHECK.due("told(0, 4) again", x.told(0, 4), -999);
        CHECK.due("told(0, 5) again", x.told(0, 5), 999);
        CHECK.due("read(0, 1000, 0)", x.read(0, 1000, 0), OUTSIDE);
        CHECK.due("read(0, -1000, 0)", x.read(0, -1000, 0), OUTSIDE);
        CHECK.due("read(0, 0, 1000)", x.read(0, 0, 1000), OUTSIDE);
        CHECK.due("read(0, 0, -1000)", x.read(0, 0, -1000), OUTSIDE);
        CHECK.due("read(-1, 1000, 0)", x.read(-1, 1000, 0), UNKNOWN);
        CHECK.due("read(1, 0, 0)", x.read(1, 0, 0), UNKNOWN);
        CHECK.due("told(0, 4) at last", x.told(0, 4), -999);
        CHECK.due("told(0, 5) at last", x.told(0, 5), 999);
    }

    private static void lost() {
        FieldAfterField x = new FieldAfterField();
        CHECK.due("lose(0) without marks", x.lose(0), UNKNOWN);
        x.mark(0, 0, 0, 0);
        CHECK.due("lose(0), lost at first", x.lose(0), 0);
        x.read(0, 5, 6);
        CHECK.due("lose(0), read", x.lose(0), 1);
        CHECK.due("lose(0), lost", x.lose(0), 0);
        CHECK.due("lose(-1)", x.lose(-1), UNKNOWN);
        CHECK.due("lose(1)", x.lose(1), UNKNOWN);
        x.read(0, 0, 0);
        x.mark(0, 0, 0, 0);
        x.read(1, 10, 0);
        CHECK.due("judge(0, 4)", x.judge(0, 4), 1);
        CHECK.due("told(0, 7), out", x.told(0, 7), 1);
        CHECK.due("told(0, 6), out", x.told(0, 6), 0);
        CHECK.due("lose(0), out", x.lose(0), 1);
        CHECK.due("told(0, 7), lost", x.told(0, 7), 0);
        CHECK.due("told(0, 6), lost", x.told(0, 6), 1);
        CHECK.due("count(1)", x.count(1), 1);
        CHECK.due("count(2)", x.count(2), 0);
    }

    private static void told() {
        FieldAfterField x = new FieldAfterField();
        x.mark(-4, 5, -2, 3);
        x.mark(1, 2, 3, -1);
        x.read(1, 44, -55);
        int[][] want = {{-4, 5, -2, 3, 0, 0, 1, 0}, {1, 2, 3, -1, 44, -55, 0, 0}};
        for (int m = 0; m < 2; m++) {
            for (int what = 0; what < 8; what++) {
                CHECK.due("told(" + m + ", " + what + ")", x.told(m, what), want[m][what]);
            }
        }
        CHECK.due("told(0, -1)", x.told(0, -1), OUTSIDE);
        CHECK.due("told(0, 8)", x.told(0, 8), OUTSIDE);
        CHECK.due("told(2, 8)", x.told(2, 8), UNKNOWN);
        CHECK.due("told(-1, 0)", x.told(-1, 0), UNKNOWN);
        CHECK.due("told(greatest, 0)", x.told(Integer.MAX_VALUE, 0), UNKNOWN);
        x.lose(1);
        CHECK.due("told(1, 4), lost", x.told(1, 4), 0);
        CHECK.due("told(1, 5), lost", x.told(1, 5), 0);
        CHECK.due("told(1, 0), lost", x.told(1, 0), 1);
    }

    private static void counts() {
        FieldAfterField x = new FieldAfterField();
        for (int m = 0; m < 5; m++) {
            x.mark(m, 0, 0, 0);
        }
        x.read(0, 0, 0);
        x.read(1, 0, 0);
        x.read(2, 0, 0);
        x.read(3, 500, 0);
        x.judge(0, 200);
        x.lot(0, 0);
        x.lot(1, 0);
        x.lot(2, 0);
        x.back(1, 0);
        x.back(1, 4);
        int[] want = {5, 1, 1, 3, 3, 1, 3};
        for (int what = 0; what <= 6; what++) {
            CHECK.due("count(" + what + ")", x.count(what), want[what]);
        }
        CHECK.due("count(-1)", x.count(-1), OUTSIDE);
        CHECK.due("count(7)", x.count(7), OUTSIDE);
        x.read(3, 1, 1);
        CHECK.due("count(2), read anew", x.count(2), 0);
        CHECK.due("count(3), read anew", x.count(3), 4);
    }

    private static void fieldsThatCount() {
        FieldAfterField x = new FieldAfterField();
        int[][] fields = {{1, 2}, {2, 1}, {1, 2}, {1, 1}, {2, 2}, {-1, 2}};
        for (int[] field : fields) {
            x.mark(field[0], field[1], 1, 0);
        }
        CHECK.due("fields, all lost", x.count(6), 0);
        int[] want = {1, 2, 2, 3, 4, 5};
        for (int m = 0; m < 6; m++) {
            x.read(m, 0, m == 3 ? 90 : 0);
            CHECK.due("fields after reads of " + (m + 1), x.count(6), want[m]);
        }
        CHECK.due("judge(0, 70)", x.judge(0, 70), 1);
        CHECK.due("fields, one out", x.count(6), 4);
        x.lose(0);
        CHECK.due("fields, one of two lost", x.count(6), 4);
        x.lose(2);
        CHECK.due("fields, both lost", x.count(6), 3);
    }
}
