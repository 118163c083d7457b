/** Promises 7 to 10 at their boundaries: det, fit, rest, spread. */
public final class EdgesOfFitsTest {
    private static final int UNKNOWN = -100001, OUTSIDE = -100002, NOT = -100003;
    private static final Edges EDGES = new Edges("EdgesOfFitsTest");

    public static void main(String[] args) {
        det();
        fit();
        rest();
        spread();
        EDGES.end();
    }

    private static void det() {
        EDGES.sentence(7, "MODELS: 0 of one TERM: 1; 1 (WAFER) of three: 1, f, g; 2 (FIELD) of three: 1, i, j",
                EdgesOfFitsTest::detModelFrom0To2);
        EDGES.sentence(7, "It STANDS, if DET is not 0", EdgesOfFitsTest::detOfFewMarks);
        EDGES.sentence(7, "MARKS that COUNT: not LOST, not OUT", EdgesOfFitsTest::detOfLostAndOutMarks);
        EDGES.sentence(7, "the determinant of the table of sums of products of two TERMS each over these MARKS",
                EdgesOfFitsTest::leastAndGreatestDet);
    }

    private static void fit() {
        EDGES.sentence(8, "of TERM t of a MODEL, a way, what = 0 the upper, 1 the lower number",
                EdgesOfFitsTest::fitModelWayAndWhat);
        EDGES.sentence(8, "(a MODEL has no such TERM, too)", EdgesOfFitsTest::fitTermsOfEachModel);
        EDGES.sentence(8, "NOT: it does not STAND", EdgesOfFitsTest::fitThatDoesNotStand);
        EDGES.sentence(8, "OUTSIDE (another number out of its bounds), NOT (not now, as told)",
                EdgesOfFitsTest::fitIsOutsideAheadOfNot);
        EDGES.sentence(8, "fractions are in least terms, the lower number above 0",
                EdgesOfFitsTest::factorsOf0BelowAndAbove);
        EDGES.sentence(8, "with the least sum, over MARKS that COUNT, of squares", EdgesOfFitsTest::greatestFactors);
    }

    private static void rest() {
        EDGES.sentence(9, "REST of a MARK, likewise.", EdgesOfFitsTest::restModelWayAndWhat);
        EDGES.sentence(9, "UNKNOWN (a MARK", EdgesOfFitsTest::restOfAMarkThatThereIsNot);
        EDGES.sentence(9, "UNKNOWN, OUTSIDE; NOT", EdgesOfFitsTest::restIsUnknownThenOutsideThenNot);
        EDGES.sentence(9, "FIT does not STAND", EdgesOfFitsTest::restOfAFitThatDoesNotStand);
        EDGES.sentence(9, "or the MARK is LOST", EdgesOfFitsTest::restOfALostMarkAndOfOneOut);
        EDGES.sentence(9, "fractions are in least terms, the lower number above 0",
                EdgesOfFitsTest::restsOf0BelowAndAbove);
        EDGES.sentence(9, "its READ less what FIT makes of its TERMS (a fraction)", EdgesOfFitsTest::greatestRests);
    }

    private static void spread() {
        EDGES.sentence(10, "SPREAD, likewise.", EdgesOfFitsTest::spreadModelWayAndWhat);
        EDGES.sentence(10, "OUTSIDE, NOT.", EdgesOfFitsTest::spreadThatDoesNotStandAndOutside);
        EDGES.sentence(10, "the sum of squares of RESTS of MARKS that COUNT", EdgesOfFitsTest::spreadOfMarksThatCount);
        EDGES.sentence(10, "fractions are in least terms, the lower number above 0", EdgesOfFitsTest::leastSpreads);
        EDGES.sentence(10, "SPREAD: the sum of squares", EdgesOfFitsTest::greatestSpreads);
    }

    // ---- objects

    /** Marks that lie alike on the wafer and in their fields, so that models 1 and 2 fit alike. */
    private static FieldAfterField at(int[]... places) {
        FieldAfterField x = new FieldAfterField();
        for (int m = 0; m < places.length; m++) {
            x.mark(places[m][0], places[m][1], places[m][0], places[m][1]);
            x.read(m, places[m][2], places[m][3]);
        }
        return x;
    }

    /** All marks at one place: model 0 alone can stand. */
    private static FieldAfterField along(int... reads) {
        FieldAfterField x = new FieldAfterField();
        for (int m = 0; m < reads.length; m++) {
            x.mark(1, 1, 1, 1);
            x.read(m, reads[m], 0);
        }
        return x;
    }

    /** Three marks in each corner; by the models 1 and 2 mark 9 has the greatest rest there can be. */
    private static FieldAfterField corners() {
        int[][] at = {{-1, -1}, {1, -1}, {1, 1}, {-1, 1}};
        int[] reads = {999, 999, 999, -999, -999, -999, 999, 999, 999, -999, 999, 999};
        FieldAfterField x = new FieldAfterField();
        for (int m = 0; m < 12; m++) {
            int[] corner = at[m / 3];
            x.mark(5 * corner[0], 5 * corner[1], 3 * corner[0], 3 * corner[1]);
            x.read(m, reads[m], -reads[m]);
        }
        return x;
    }

    // ---- promise 7: det

    private static void detModelFrom0To2() {
        EDGES.bounds(Edges::used, OUTSIDE, 0, 2, 0, "det", 0);
        FieldAfterField x = Edges.used();
        EDGES.due(3, x, "det", 0);
        EDGES.due(1, x, "det", 1);
        EDGES.due(0, x, "det", 2);
    }

    private static void detOfFewMarks() {
        dets(new FieldAfterField(), 0, 0);
        dets(at(new int[] {1, 2, 0, 0}), 1, 0);
        dets(at(new int[] {1, 2, 0, 0}, new int[] {2, 1, 0, 0}), 2, 0);
        dets(at(new int[] {-3, -2, 0, 0}, new int[] {0, 0, 0, 0}, new int[] {3, 2, 0, 0}), 3, 0);
        dets(at(new int[] {2, 2, 0, 0}, new int[] {2, 2, 0, 0}, new int[] {2, 3, 0, 0}), 3, 0);
        dets(at(new int[] {-3, -2, 0, 0}, new int[] {0, 0, 0, 0}, new int[] {3, 3, 0, 0}), 3, 9);
        dets(along(new int[12]), 12, 0);
    }

    private static void dets(FieldAfterField x, int ofOneTerm, int ofThree) {
        EDGES.due(ofOneTerm, x, "det", 0);
        EDGES.due(ofThree, x, "det", 1);
        EDGES.due(ofThree, x, "det", 2);
    }

    private static void detOfLostAndOutMarks() {
        FieldAfterField x = at(new int[] {0, 0, 0, 0}, new int[] {1, 0, 0, 0}, new int[] {0, 1, 900, 0});
        dets(x, 3, 1);
        x.judge(0, 500);
        dets(x, 2, 0);
        x.read(2, 0, 0);
        dets(x, 3, 1);
        x.lose(0);
        dets(x, 2, 0);
        x.lose(1);
        x.lose(2);
        dets(x, 0, 0);
    }

    private static void leastAndGreatestDet() {
        FieldAfterField least = at(new int[] {3, 3, 0, 0}, new int[] {3, 2, 0, 0}, new int[] {2, 3, 0, 0});
        dets(least, 3, 1);
        FieldAfterField greatest = corners();
        EDGES.due(12, greatest, "det", 0);
        EDGES.due(1080000, greatest, "det", 1);
        EDGES.due(139968, greatest, "det", 2);
    }

    // ---- promise 8: fit

    private static void fitModelWayAndWhat() {
        EDGES.bounds(EdgesOfFitsTest::corners, OUTSIDE, 0, 2, 0, "fit", 0, 1, 0, 1);
        EDGES.bounds(Edges::used, OUTSIDE, 0, 1, 1, "fit", 1, 0, 2, 0);
        EDGES.bounds(Edges::used, OUTSIDE, 0, 1, 3, "fit", 1, 0, 2, 0);
    }

    private static void fitTermsOfEachModel() {
        EDGES.bounds(EdgesOfFitsTest::corners, OUTSIDE, 0, 0, 2, "fit", 0, 0, 0, 0);
        EDGES.bounds(EdgesOfFitsTest::corners, OUTSIDE, 0, 2, 2, "fit", 1, 0, 0, 0);
        EDGES.bounds(EdgesOfFitsTest::corners, OUTSIDE, 0, 2, 2, "fit", 2, 0, 0, 0);
    }

    private static void fitThatDoesNotStand() {
        for (int model = 0; model <= 2; model++) {
            EDGES.refused(FieldAfterField::new, NOT, "fit", model, 0, 0, 0);
            EDGES.refused(EdgesOfFitsTest::twelveLost, NOT, "fit", model, 1, 0, 1);
        }
        EDGES.refused(Edges::used, NOT, "fit", 2, 0, 0, 0);
        EDGES.refused(Edges::used, NOT, "fit", 2, 1, 2, 1);
        FieldAfterField two = at(new int[] {0, 1, 5, 0}, new int[] {1, 0, 7, 0});
        EDGES.due(NOT, two, "fit", 1, 0, 0, 0);
        EDGES.fraction(6, 1, two, "fit", 0, 0, 0);
    }

    private static FieldAfterField twelveLost() {
        FieldAfterField x = corners();
        for (int m = 0; m < 12; m++) {
            x.lose(m);
        }
        return x;
    }

    private static void fitIsOutsideAheadOfNot() {
        EDGES.refused(FieldAfterField::new, OUTSIDE, "fit", 3, 0, 0, 0);
        EDGES.refused(FieldAfterField::new, OUTSIDE, "fit", 0, 2, 0, 0);
        EDGES.refused(FieldAfterField::new, OUTSIDE, "fit", 0, 0, 1, 0);
        EDGES.refused(FieldAfterField::new, OUTSIDE, "fit", 0, 0, 0, 2);
        EDGES.refused(Edges::used, OUTSIDE, "fit", 2, 0, 3, 0);
    }

    private static void factorsOf0BelowAndAbove() {
        EDGES.fraction(0, 1, along(-7, 7), "fit", 0, 0, 0);
        EDGES.fraction(1, 2, along(-1, 2), "fit", 0, 0, 0);
        EDGES.fraction(-1, 2, along(-2, 1), "fit", 0, 0, 0);
        EDGES.fraction(-3, 1, along(-2, -4), "fit", 0, 0, 0);
        EDGES.fraction(1, 12, along(1, 0, 0, 0, 0, 0, 0, 0, 0, 0, 0, 0), "fit", 0, 0, 0);
        EDGES.fraction(-1, 4, along(-3, 0, 0, 0, 0, 0, 0, 0, 0, 0, 0, 0), "fit", 0, 0, 0);
        EDGES.fraction(0, 1, along(0), "fit", 0, 1, 0);
    }

    private static void greatestFactors() {
        EDGES.fraction(999, 1, along(999, 999, 999, 999, 999, 999, 999, 999, 999, 999, 999, 999), "fit", 0, 0, 0);
        EDGES.fraction(-999, 1, along(-999), "fit", 0, 0, 0);
        // A step of 1998 from a mark to each next one, told from far off.
        FieldAfterField x = new FieldAfterField();
        int[][] places = {{5, 5}, {5, 4}, {4, 5}};
        for (int m = 0; m < 3; m++) {
            x.mark(places[m][0], places[m][1], 0, 0);
            x.read(m, m == 0 ? 999 : -999, m == 0 ? -999 : 999);
        }
        long[] want = {-18981, 1998, 1998};
        for (int t = 0; t <= 2; t++) {
            EDGES.fraction(want[t], 1, x, "fit", 1, 0, t);
            EDGES.fraction(-want[t], 1, x, "fit", 1, 1, t);
        }
        long[][] great = {{291, 3490}, {3468769, 1015590}, {-3469351, 1015590}};
        for (int t = 0; t <= 2; t++) {
            EDGES.fraction(great[t][0], great[t][1], greatSpread(), "fit", 1, 0, t);
            EDGES.fraction(-great[t][0], great[t][1], greatSpread(), "fit", 1, 1, t);
        }
    }

    // ---- promise 9: rest

    private static void restModelWayAndWhat() {
        EDGES.bounds(EdgesOfFitsTest::corners, OUTSIDE, 0, 2, 0, "rest", 0, 1, 11, 1);
        EDGES.bounds(Edges::used, OUTSIDE, 0, 1, 1, "rest", 1, 0, 3, 0);
        EDGES.bounds(Edges::used, OUTSIDE, 0, 1, 3, "rest", 1, 0, 3, 0);
    }

    private static void restOfAMarkThatThereIsNot() {
        EDGES.bounds(EdgesOfFitsTest::corners, UNKNOWN, 0, 11, 2, "rest", 1, 0, 0, 0);
        EDGES.refused(Edges::used, UNKNOWN, "rest", 1, 0, 5, 0);
        EDGES.refused(FieldAfterField::new, UNKNOWN, "rest", 0, 0, 0, 0);
    }

    private static void restIsUnknownThenOutsideThenNot() {
        EDGES.refused(Edges::used, UNKNOWN, "rest", 3, 2, 5, 2);
        EDGES.refused(Edges::used, UNKNOWN, "rest", 2, 0, 5, 0);
        EDGES.refused(Edges::used, OUTSIDE, "rest", 3, 0, 4, 0);
        EDGES.refused(Edges::used, OUTSIDE, "rest", 2, 2, 4, 0);
        EDGES.refused(Edges::used, OUTSIDE, "rest", 2, 0, 4, 2);
        EDGES.refused(Edges::used, OUTSIDE, "rest", 2, 0, 0, -1);
    }

    private static void restOfAFitThatDoesNotStand() {
        EDGES.refused(Edges::used, NOT, "rest", 2, 0, 0, 0);
        EDGES.refused(Edges::used, NOT, "rest", 2, 1, 2, 1);
        FieldAfterField two = at(new int[] {0, 1, 5, 0}, new int[] {1, 0, 7, 0});
        EDGES.due(NOT, two, "rest", 1, 0, 0, 0);
        EDGES.fraction(-1, 1, two, "rest", 0, 0, 0);
    }

    private static void restOfALostMarkAndOfOneOut() {
        EDGES.refused(Edges::used, NOT, "rest", 0, 0, 4, 0);
        EDGES.refused(Edges::used, NOT, "rest", 1, 1, 4, 1);
        // 600 less a third of 1 and 2 and 4, which it takes no part in.
        EDGES.fraction(1793, 3, Edges.used(), "rest", 0, 0, 2);
        EDGES.fraction(597, 1, Edges.used(), "rest", 1, 0, 2);
        FieldAfterField x = Edges.used();
        x.lose(2);
        EDGES.due(NOT, x, "rest", 0, 0, 2, 0);
    }

    private static void restsOf0BelowAndAbove() {
        EDGES.fraction(0, 1, along(17), "rest", 0, 0, 0);
        EDGES.fraction(-1, 2, along(1, 2), "rest", 0, 0, 0);
        EDGES.fraction(1, 2, along(1, 2), "rest", 0, 0, 1);
        EDGES.fraction(-1, 1, along(1, 3), "rest", 0, 0, 0);
        FieldAfterField justEnough = at(new int[] {0, 0, 999, -999}, new int[] {1, 0, -999, 5}, new int[] {0, 1, 7, 8});
        for (int m = 0; m < 3; m++) {
            EDGES.fraction(0, 1, justEnough, "rest", 1, 0, m);
            EDGES.fraction(0, 1, justEnough, "rest", 2, 1, m);
        }
    }

    private static void greatestRests() {
        for (int model = 1; model <= 2; model++) {
            FieldAfterField x = corners();
            // Times det of model 1 this is -2157840000, below the least int.
            EDGES.fraction(-1998, 1, x, "rest", model, 0, 9);
            EDGES.fraction(1998, 1, x, "rest", model, 1, 9);
            EDGES.fraction(0, 1, x, "rest", model, 0, 11);
            EDGES.fraction(666, 1, x, "rest", model, 0, 0);
            EDGES.fraction(-666, 1, x, "rest", model, 0, 3);
        }
        EDGES.fraction(-1049349691, 1015590, greatSpread(), "rest", 1, 0, 9);
        EDGES.fraction(1049349691, 1015590, greatSpread(), "rest", 1, 1, 9);
        EDGES.fraction(101101805, 101559, greatSpread(), "rest", 1, 0, 3);
        farOff();
    }

    /** The fit of three marks close by, told of one that is out, as far off as can be. */
    private static void farOff() {
        FieldAfterField x = new FieldAfterField();
        int[][] places = {{5, 5}, {5, 4}, {4, 5}, {-5, -5}};
        int[] reads = {600, -300, -300, 0};
        for (int m = 0; m < 4; m++) {
            x.mark(places[m][0], places[m][1], 0, 0);
            x.read(m, reads[m], m == 3 ? 999 : 0);
        }
        EDGES.due(1, x, "judge", 0, 700);
        EDGES.due(1, x, "told", 3, 7);
        EDGES.fraction(17400, 1, x, "rest", 1, 0, 3);
        EDGES.fraction(999, 1, x, "rest", 1, 1, 3);
    }

    // ---- promise 10: spread

    private static void spreadModelWayAndWhat() {
        EDGES.bounds(EdgesOfFitsTest::corners, OUTSIDE, 0, 2, 0, "spread", 0, 1, 1);
        EDGES.bounds(Edges::used, OUTSIDE, 0, 1, 1, "spread", 1, 0, 0);
        EDGES.bounds(Edges::used, OUTSIDE, 0, 1, 2, "spread", 1, 0, 0);
    }

    private static void spreadThatDoesNotStandAndOutside() {
        for (int model = 0; model <= 2; model++) {
            EDGES.refused(FieldAfterField::new, NOT, "spread", model, 0, 0);
            EDGES.refused(EdgesOfFitsTest::twelveLost, NOT, "spread", model, 1, 1);
        }
        EDGES.refused(Edges::used, NOT, "spread", 2, 0, 0);
        EDGES.refused(Edges::used, OUTSIDE, "spread", 2, 2, 0);
        EDGES.refused(Edges::used, OUTSIDE, "spread", 2, 0, 2);
        EDGES.refused(FieldAfterField::new, OUTSIDE, "spread", 3, 0, 0);
    }

    private static void spreadOfMarksThatCount() {
        FieldAfterField x = along(0, 2, 900, 5);
        x.lose(3);
        x.judge(0, 500);
        EDGES.due(1, x, "told", 2, 7);
        EDGES.fraction(2, 1, x, "spread", 0, 0);
        x.read(3, 1, 0);
        EDGES.fraction(2, 1, x, "spread", 0, 0);
        x.read(3, 4, 0);
        EDGES.fraction(8, 1, x, "spread", 0, 0);
    }

    private static void leastSpreads() {
        EDGES.fraction(0, 1, along(-999), "spread", 0, 0);
        EDGES.fraction(0, 1, along(5, 5), "spread", 0, 0);
        EDGES.fraction(1, 2, along(5, 6), "spread", 0, 0);
        EDGES.fraction(2, 3, along(5, 6, 5), "spread", 0, 0);
        FieldAfterField justEnough = at(new int[] {0, 0, 999, -999}, new int[] {1, 0, -999, 5}, new int[] {0, 1, 7, 8});
        EDGES.fraction(0, 1, justEnough, "spread", 1, 0);
        EDGES.fraction(0, 1, justEnough, "spread", 2, 1);
    }

    private static void greatestSpreads() {
        FieldAfterField ends = along(999, -999, 999, -999, 999, -999, 999, -999, 999, -999, 999, -999);
        EDGES.fraction(11976012, 1, ends, "spread", 0, 0);
        for (int model = 1; model <= 2; model++) {
            EDGES.fraction(7984008, 1, corners(), "spread", model, 0);
            FieldAfterField x = corners();
            x.read(9, -999, 999);
            x.read(10, -999, 999);
            x.read(11, -999, 999);
            // The rests are all 999 by size: 12 squares of these times det pass the greatest long.
            EDGES.fraction(11976012, 1, x, "spread", model, 0);
            EDGES.fraction(11976012, 1, x, "spread", model, 1);
        }
        EDGES.fraction(12153793317889L, 1015590, greatSpread(), "spread", 1, 0);
        EDGES.fraction(12153793317889L, 1015590, greatSpread(), "spread", 1, 1);
    }

    /** As great as it comes with nothing in common between the numbers of the fraction. */
    private static FieldAfterField greatSpread() {
        int[][] places = {{-5, 5}, {5, -5}, {-5, 5}, {-4, -5}, {-5, 5}, {5, 5}, {-5, -5}, {-5, -5}, {5, -4}, {5, -5},
            {5, 5}, {5, 5}};
        int[] reads = {-998, -999, -999, 999, -999, 999, 999, 999, -999, -999, 999, 999};
        FieldAfterField x = new FieldAfterField();
        for (int m = 0; m < 12; m++) {
            x.mark(places[m][0], places[m][1], 0, 0);
            x.read(m, reads[m], -reads[m]);
        }
        return x;
    }
}
