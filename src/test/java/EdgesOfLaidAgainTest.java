/** Promise 22 at its boundaries: bad. */
public final class EdgesOfLaidAgainTest {
    private static final int OUTSIDE = -100002, NOT = -100003;
    private static final Edges EDGES = new Edges("EdgesOfLaidAgainTest");

    public static void main(String[] args) {
        EDGES.sentence(22, "BAD MARKS by a MODEL", EdgesOfLaidAgainTest::modelFrom0To2);
        EDGES.sentence(22, "a LIMIT (0 .. 999)", EdgesOfLaidAgainTest::limitFrom0To999);
        EDGES.sentence(22, "what = 0 how many, 1 FIELDS with one, 2 whether the whole wafer is laid again (1, 0)",
                EdgesOfLaidAgainTest::whatFrom0To2);
        EDGES.sentence(22, "is above a LIMIT by size", EdgesOfLaidAgainTest::aRestAtTheLimitIsNotBad);
        EDGES.sentence(22, "if a REST of it", EdgesOfLaidAgainTest::oneOfBothWaysIsEnough);
        EDGES.sentence(22, "of MARKS that COUNT alone", EdgesOfLaidAgainTest::lostAndOutMarksAreNotBad);
        EDGES.sentence(22, "if they are at most half of all FIELDS", EdgesOfLaidAgainTest::halfAndMoreThanHalf);
        EDGES.sentence(22, "FIELDS (f, g) with a BAD MARK", EdgesOfLaidAgainTest::severalBadMarksOfAField);
        EDGES.sentence(22, "all FIELDS that have a MARK that COUNTS", EdgesOfLaidAgainTest::fieldsThatDoNotCount);
        EDGES.sentence(22, "NOT: FIT does not STAND", EdgesOfLaidAgainTest::notWithoutAFit);
        EDGES.sentence(22, "OUTSIDE (another number out of its bounds), NOT", EdgesOfLaidAgainTest::outsideAheadOfNot);
        EDGES.sentence(22, "MARKS (12 at most)", EdgesOfLaidAgainTest::twelveMarks);
        EDGES.end();
    }

    /** A mark for each read along, in a field of its own; the fit of model 0 is the mean. */
    private static FieldAfterField along(int... reads) {
        FieldAfterField x = new FieldAfterField();
        for (int m = 0; m < reads.length; m++) {
            x.mark(m % 10 - 5, m / 10, 0, 0);
            x.read(m, reads[m], 0);
        }
        return x;
    }

    private static void bad(FieldAfterField x, int limit, int marks, int fields, int wafer) {
        EDGES.due(marks, x, "bad", 0, limit, 0);
        EDGES.due(fields, x, "bad", 0, limit, 1);
        EDGES.due(wafer, x, "bad", 0, limit, 2);
    }

    private static FieldAfterField corners() {
        FieldAfterField x = new FieldAfterField();
        for (int m = 0; m < 4; m++) {
            x.mark(m % 2, m / 2, m % 2, m / 2);
            x.read(m, m == 3 ? 8 : 0, 0);
        }
        return x;
    }

    private static void modelFrom0To2() {
        EDGES.bounds(EdgesOfLaidAgainTest::corners, OUTSIDE, 0, 2, 0, "bad", 0, 1, 0);
        EDGES.due(1, corners(), "bad", 0, 5, 0);
        EDGES.due(4, corners(), "bad", 1, 1, 0);
        EDGES.due(0, corners(), "bad", 1, 2, 0);
        EDGES.due(4, corners(), "bad", 2, 1, 0);
        EDGES.due(0, corners(), "bad", 2, 2, 0);
    }

    private static void limitFrom0To999() {
        EDGES.bounds(Edges::used, OUTSIDE, 0, 999, 1, "bad", 0, 5, 0);
        EDGES.bounds(Edges::used, OUTSIDE, 0, 999, 1, "bad", 1, 5, 2);
    }

    private static void whatFrom0To2() {
        EDGES.bounds(Edges::used, OUTSIDE, 0, 2, 2, "bad", 0, 5, 0);
        bad(along(0, 0, 0), 0, 0, 0, 0);
        bad(along(7), 0, 0, 0, 0);
    }

    private static void aRestAtTheLimitIsNotBad() {
        bad(along(0, 0, 3), 0, 3, 3, 1);
        bad(along(0, 0, 3), 1, 1, 1, 0);
        bad(along(0, 0, 3), 2, 0, 0, 0);
        bad(along(0, 0, -3), 1, 1, 1, 0);
        bad(along(0, 0, -3), 2, 0, 0, 0);
        // Rests of a third and of two thirds are above 0, and not above 1.
        bad(along(0, 0, 1), 0, 3, 3, 1);
        bad(along(0, 0, 1), 1, 0, 0, 0);
        bad(along(999, -999), 998, 2, 2, 1);
        bad(along(999, -999), 999, 0, 0, 0);
        bad(along(999, -999, -1), 999, 1, 1, 0);
        bad(along(999, -999, 1), 999, 1, 1, 0);
        bad(along(999, -999, -999), 999, 1, 1, 0);
    }

    private static void oneOfBothWaysIsEnough() {
        FieldAfterField x = along(0, 0, 0, 0);
        x.read(0, 0, 8);
        bad(x, 5, 1, 1, 0);
        bad(x, 6, 0, 0, 0);
        x.read(0, 0, -8);
        bad(x, 5, 1, 1, 0);
        x.read(1, 8, 0);
        bad(x, 5, 2, 2, 0);
        // A mark that is bad both ways is one bad mark.
        x.read(1, 0, 0);
        x.read(0, 8, 8);
        bad(x, 5, 1, 1, 0);
    }

    private static void lostAndOutMarksAreNotBad() {
        FieldAfterField x = along(0, 6, 0, 0, 900, 0);
        x.judge(0, 500);
        EDGES.due(1, x, "told", 4, 7);
        x.lose(5);
        bad(x, 4, 1, 1, 0);
        bad(x, 5, 0, 0, 0);
        x.lose(1);
        bad(x, 0, 0, 0, 0);
    }

    private static void halfAndMoreThanHalf() {
        bad(along(0, 0), 0, 0, 0, 0);
        bad(along(0, 10, 0), 4, 1, 1, 0);
        bad(along(-10, 10, 0), 5, 2, 2, 1);
        bad(along(-10, 10, 0, 0), 5, 2, 2, 0);
        bad(along(-10, 10, -10, 10), 5, 4, 4, 1);
        bad(along(-10, 10, 0, 0, 0), 5, 2, 2, 0);
        bad(along(-10, -10, 20, 0, 0), 5, 3, 3, 1);
    }

    private static void severalBadMarksOfAField() {
        FieldAfterField x = new FieldAfterField();
        int[][] fields = {{1, 2}, {1, 2}, {2, 1}, {1, 1}};
        int[] reads = {-10, 10, 0, 0};
        for (int m = 0; m < 4; m++) {
            x.mark(fields[m][0], fields[m][1], m % 2, 0);
            x.read(m, reads[m], 0);
        }
        bad(x, 5, 2, 1, 0);
        x.lose(3);
        bad(x, 5, 2, 1, 0);
        x.lose(2);
        // One bad field of one.
        bad(x, 5, 2, 1, 1);
        bad(x, 10, 0, 0, 0);
    }

    private static void fieldsThatDoNotCount() {
        FieldAfterField x = along(-10, 10, 0, 0);
        bad(x, 5, 2, 2, 0);
        x.lose(3);
        bad(x, 5, 2, 2, 1);
        FieldAfterField y = along(-10, 10, 0, 900);
        y.judge(0, 500);
        EDGES.due(1, y, "told", 3, 7);
        bad(y, 5, 2, 2, 1);
    }

    private static void notWithoutAFit() {
        for (int what = 0; what <= 2; what++) {
            EDGES.refused(FieldAfterField::new, NOT, "bad", 0, 0, what);
            EDGES.refused(Edges::used, NOT, "bad", 2, 999, what);
        }
        FieldAfterField lost = along(1, 2, 3);
        for (int m = 0; m < 3; m++) {
            lost.lose(m);
        }
        bad(lost, 0, NOT, NOT, NOT);
        EDGES.due(NOT, along(1, 2), "bad", 1, 0, 0);
        EDGES.due(NOT, along(1, 2, 3), "bad", 1, 0, 0);
    }

    private static void outsideAheadOfNot() {
        EDGES.refused(FieldAfterField::new, OUTSIDE, "bad", 3, 0, 0);
        EDGES.refused(FieldAfterField::new, OUTSIDE, "bad", 0, -1, 0);
        EDGES.refused(Edges::used, OUTSIDE, "bad", 2, 1000, 0);
        EDGES.refused(Edges::used, OUTSIDE, "bad", 2, 0, 3);
        EDGES.refused(Edges::used, OUTSIDE, "bad", 2, 0, -1);
    }

    private static void twelveMarks() {
        bad(along(9, 9, 9, -9, -9, -9, 0, 0, 0, 0, 0, 0), 8, 6, 6, 0);
        bad(along(9, 9, 9, -9, -9, -9, 9, 9, -9, -9, 0, 0), 8, 10, 10, 1);
        bad(along(9, 9, 9, -9, -9, -9, 9, -9, 0, 0, 0, 0), 8, 8, 8, 1);
        bad(along(999, 999, 999, 999, 999, 999, -999, -999, -999, -999, -999, -999), 998, 12, 12, 1);
        bad(along(999, 999, 999, 999, 999, 999, -999, -999, -999, -999, -999, -999), 999, 0, 0, 0);
        // Three in each corner, and mark 9 as far off as can be: -1998.
        int[] reads = {999, 999, 999, -999, -999, -999, 999, 999, 999, -999, 999, 999};
        int[][] at = {{-5, -5}, {5, -5}, {5, 5}, {-5, 5}};
        FieldAfterField x = new FieldAfterField();
        for (int m = 0; m < 12; m++) {
            x.mark(at[m / 3][0], at[m / 3][1], 0, 0);
            x.read(m, reads[m], 0);
        }
        EDGES.due(1, x, "bad", 1, 999, 0);
        EDGES.due(1, x, "bad", 1, 666, 0);
        EDGES.due(10, x, "bad", 1, 665, 0);
        EDGES.due(4, x, "bad", 1, 665, 1);
    }
}
