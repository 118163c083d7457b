/** Promise 22: bad. */
public final class LaidAgainTest {
    private static final int NOT = -100003;
    private static final Check CHECK = new Check("LaidAgainTest");

    public static void main(String[] args) {
        limits();
        halfAndMore();
        fieldsNotMarks();
        eitherWay();
        marksThatCountAlone();
        byModel();
        CHECK.end();
    }

    private static void bad(FieldAfterField x, String what, int model, int limit, int... want) {
        for (int n = 0; n < 3; n++) {
            CHECK.due(what + ": bad(" + model + ", " + limit + ", " + n + ")", x.bad(model, limit, n), want[n]);
        }
    }

    /** A mark for each read along, in a field of its own. */
    private static FieldAfterField with(int... along) {
        FieldAfterField x = new FieldAfterField();
        for (int m = 0; m < along.length; m++) {
            x.mark(m - 5, 0, 0, 0);
            x.read(m, along[m], 0);
        }
        return x;
    }

    private static void limits() {
        FieldAfterField x = with(0, 0, 3);
        bad(x, "rests -1, -1, 2", 0, 0, 3, 3, 1);
        bad(x, "rests -1, -1, 2", 0, 1, 1, 1, 0);
        bad(x, "rests -1, -1, 2", 0, 2, 0, 0, 0);
        bad(x, "rests -1, -1, 2", 0, 999, 0, 0, 0);
        x.read(2, 4, 0);
        bad(x, "rests -4/3, -4/3, 8/3", 0, 1, 3, 3, 1);
        bad(x, "rests -4/3, -4/3, 8/3", 0, 2, 1, 1, 0);
        x.read(0, 0, 0);
        x.read(1, 0, 0);
        x.read(2, 0, 0);
        bad(x, "rests of 0", 0, 0, 0, 0, 0);
        bad(with(999, -999, -999), "rests beyond 999", 0, 999, 1, 1, 0);
    }

    private static void halfAndMore() {
        bad(with(-10, 10, 0, 0), "half", 0, 5, 2, 2, 0);
        bad(with(-10, 10, 0), "more than half of three", 0, 5, 2, 2, 1);
        bad(with(-10, 10, 0, 0, 0), "less than half of five", 0, 5, 2, 2, 0);
        bad(with(-10, 10, -10, 10, 0), "more than half of five", 0, 5, 4, 4, 1);
        bad(with(0), "one field", 0, 0, 0, 0, 0);
    }

    private static void fieldsNotMarks() {
        FieldAfterField x = new FieldAfterField();
        int[][] fields = {{0, 0}, {0, 0}, {0, 1}, {1, 0}};
        int[] along = {-10, 10, 0, 0};
        for (int m = 0; m < 4; m++) {
            x.mark(fields[m][0], fields[m][1], m % 3, m / 3);
            x.read(m, along[m], 0);
        }
        bad(x, "two of one field", 0, 5, 2, 1, 0);
        x.lose(3);
        bad(x, "two of one field, two fields", 0, 5, 2, 1, 0);
        x.lose(2);
        bad(x, "the one field", 0, 5, 2, 1, 1);
    }

    private static void eitherWay() {
        FieldAfterField x = with(0, 0, 0, 0);
        x.read(1, 0, -40);
        bad(x, "across", 0, 29, 1, 1, 0);
        bad(x, "across", 0, 30, 0, 0, 0);
        x.read(2, 40, 0);
        bad(x, "both", 0, 29, 2, 2, 0);
    }

    private static void marksThatCountAlone() {
        FieldAfterField x = with(0, 6, 0, 0, 900, 0);
        x.judge(0, 500);
        CHECK.due("one is out", x.told(4, 7), 1);
        x.lose(5);
        bad(x, "without the one that is out", 0, 4, 1, 1, 0);
        x.lose(3);
        x.lose(2);
        // Two fields count, with rests of 3 each.
        bad(x, "fields that count alone", 0, 2, 2, 2, 1);
        bad(x, "fields that count alone", 0, 3, 0, 0, 0);
    }

    private static void byModel() {
        FieldAfterField x = new FieldAfterField();
        int[][] corners = {{-1, -1}, {1, -1}, {1, 1}, {-1, 1}, {0, 0}};
        int[] along = {0, 10, 30, 20, 15};
        for (int m = 0; m < 5; m++) {
            x.mark(corners[m][0], corners[m][1], -corners[m][0], 0);
            x.read(m, along[m], 0);
        }
        bad(x, "one term", 0, 10, 2, 2, 0);
        bad(x, "one term", 0, 4, 4, 4, 1);
        bad(x, "the wafer", 1, 0, 0, 0, 0);
        bad(x, "the field, in a line", 2, 0, NOT, NOT, NOT);
        x.mark(3, 3, 0, 1);
        x.read(5, 0, 0);
        // In a field the turn of the line is left: 10 by size at the four corners.
        bad(x, "the field", 2, 9, 4, 4, 1);
        bad(x, "the field", 2, 10, 0, 0, 0);
    }

}
