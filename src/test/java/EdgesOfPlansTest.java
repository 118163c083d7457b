/** Promise 12 at its boundaries: plan. */
public final class EdgesOfPlansTest {
    private static final int OUTSIDE = -100002, NOT = -100003;
    private static final Edges EDGES = new Edges("EdgesOfPlansTest");

    public static void main(String[] args) {
        EDGES.sentence(12, "A PLAN of k MARKS (1 .. 6)", EdgesOfPlansTest::kFrom1To6);
        EDGES.sentence(12, "OUTSIDE (k, MODEL, what)", EdgesOfPlansTest::modelAndWhatFrom0To2);
        EDGES.sentence(12, "NOT: there is none", EdgesOfPlansTest::fewerMarksThanK);
        EDGES.sentence(12, "with a DET (of all these) that is not 0", EdgesOfPlansTest::setsWithoutADet);
        EDGES.sentence(12, "OUTSIDE (another number out of its bounds), NOT (not now, as told)",
                EdgesOfPlansTest::outsideAheadOfNot);
        EDGES.sentence(12, "of all SETS of k MARKS (LOST and OUT ones, too)", EdgesOfPlansTest::lostAndOutOnesToo);
        EDGES.sentence(12, "WORST is the greatest, over all MARKS, of t V t", EdgesOfPlansTest::worstOverAllMarks);
        EDGES.sentence(12, "of several the first (the least MARK where they first differ, both told by rising numbers)",
                EdgesOfPlansTest::ofSeveralTheFirst);
        EDGES.sentence(12, "what = 0 the SET (bit k for MARK k)", EdgesOfPlansTest::theLastMarksBit);
        EDGES.sentence(12, "fractions are in least terms, the lower number above 0", EdgesOfPlansTest::leastTerms);
        EDGES.sentence(12, "THE PLAN: the SET with the least WORST", EdgesOfPlansTest::greatestNumbers);
        EDGES.sentence(12, "MARKS (12 at most)", EdgesOfPlansTest::twelveMarks);
        EDGES.end();
    }

    private static void plan(FieldAfterField x, int k, int model, int set, long upper, long lower) {
        EDGES.due(set, x, "plan", k, model, 0);
        EDGES.due(upper, x, "plan", k, model, 1);
        EDGES.due(lower, x, "plan", k, model, 2);
    }

    private static void noPlan(FieldAfterField x, int k, int model) {
        plan(x, k, model, NOT, NOT, NOT);
    }

    /** Marks on the wafer, f and g in turn, all in the midst of their fields. */
    private static FieldAfterField wafer(int... places) {
        FieldAfterField x = new FieldAfterField();
        for (int n = 0; n < places.length; n += 2) {
            x.mark(places[n], places[n + 1], 0, 0);
        }
        return x;
    }

    /** The same in one field, i and j in turn. */
    private static FieldAfterField field(int... places) {
        FieldAfterField x = new FieldAfterField();
        for (int n = 0; n < places.length; n += 2) {
            x.mark(0, 0, places[n], places[n + 1]);
        }
        return x;
    }

    private static FieldAfterField square() {
        return wafer(0, 0, 1, 0, 0, 1, 1, 1, 2, 2, 3, 1);
    }

    private static void kFrom1To6() {
        EDGES.bounds(EdgesOfPlansTest::square, OUTSIDE, 1, 6, 0, "plan", 3, 0, 0);
        EDGES.bounds(Edges::full, OUTSIDE, 1, 6, 0, "plan", 3, 0, 1);
        for (int k = 1; k <= 6; k++) {
            plan(square(), k, 0, (1 << k) - 1, 1, k);
        }
    }

    private static void modelAndWhatFrom0To2() {
        EDGES.bounds(() -> field(0, 0, 1, 0, 0, 1), OUTSIDE, 0, 2, 2, "plan", 3, 2, 0);
        EDGES.bounds(EdgesOfPlansTest::marksApart, OUTSIDE, 0, 2, 1, "plan", 3, 0, 0);
        EDGES.refused(Edges::used, OUTSIDE, "plan", 3, 3, 0);
        EDGES.refused(Edges::used, OUTSIDE, "plan", 3, 1, 3);
    }

    /** Marks of which any three have a det, on the wafer and in the field. */
    private static FieldAfterField marksApart() {
        FieldAfterField x = new FieldAfterField();
        x.mark(0, 0, 1, 1);
        x.mark(1, 0, 0, 1);
        x.mark(0, 1, 1, 0);
        return x;
    }

    private static void fewerMarksThanK() {
        FieldAfterField x = new FieldAfterField();
        for (int marks = 0; marks <= 6; marks++) {
            for (int k = 1; k <= 6; k++) {
                EDGES.due(k <= marks ? (1 << k) - 1 : NOT, x, "plan", k, 0, 0);
            }
            x.mark(0, 0, 0, 0);
        }
        noPlan(marksApart(), 4, 1);
        noPlan(marksApart(), 4, 2);
        plan(marksApart(), 3, 1, 7, 1, 1);
        plan(marksApart(), 3, 2, 7, 1, 1);
        EDGES.refused(FieldAfterField::new, NOT, "plan", 1, 0, 0);
        EDGES.refused(Edges::used, NOT, "plan", 6, 0, 1);
    }

    private static void setsWithoutADet() {
        for (int k = 1; k <= 2; k++) {
            noPlan(square(), k, 1);
            noPlan(square(), k, 2);
        }
        noPlan(wafer(-2, -2, -1, -1, 0, 0, 1, 1, 2, 2, 3, 3), 6, 1);
        noPlan(wafer(-2, -2, -1, -1, 0, 0, 1, 1, 2, 2, 3, 3), 3, 1);
        noPlan(wafer(4, 4, 4, 4, 4, 4), 3, 1);
        noPlan(wafer(4, 4, 4, 4, 3, 4), 3, 1);
        noPlan(square(), 3, 2);
        noPlan(field(-1, 0, 0, 0, 1, 0, 3, 0), 4, 2);
        // Mark 3 alone is off the line, so it is in every set with a det.
        plan(wafer(0, 0, 1, 0, 2, 0, 0, 1, 5, 0), 3, 1, 25, 1, 1);
        EDGES.refused(Edges::used, NOT, "plan", 2, 1, 0);
        EDGES.refused(Edges::used, NOT, "plan", 3, 2, 0);
    }

    private static void outsideAheadOfNot() {
        EDGES.refused(FieldAfterField::new, OUTSIDE, "plan", 0, 0, 0);
        EDGES.refused(FieldAfterField::new, OUTSIDE, "plan", 7, 0, 0);
        EDGES.refused(FieldAfterField::new, OUTSIDE, "plan", 1, 3, 0);
        EDGES.refused(FieldAfterField::new, OUTSIDE, "plan", 1, 0, 3);
    }

    private static void lostAndOutOnesToo() {
        FieldAfterField x = wafer(0, 0, 1, 0, 2, 0, 0, 1, 5, 0);
        plan(x, 3, 1, 25, 1, 1);
        for (int m = 0; m < 5; m++) {
            x.read(m, m == 3 ? 900 : 0, 0);
        }
        plan(x, 3, 1, 25, 1, 1);
        EDGES.due(1, x, "judge", 0, 500);
        EDGES.due(1, x, "told", 3, 7);
        plan(x, 3, 1, 25, 1, 1);
        x.lose(4);
        plan(x, 3, 1, 25, 1, 1);
        plan(x, 1, 0, 1, 1, 1);
    }

    private static void worstOverAllMarks() {
        // Whichever three corners are read, the fourth is told worst.
        plan(wafer(0, 0, 1, 0, 0, 1, 1, 1), 3, 1, 7, 3, 1);
        plan(field(0, 0, 1, 0, 0, 1, 1, 1), 3, 2, 7, 3, 1);
        plan(wafer(0, 0, 1, 0, 0, 1), 3, 1, 7, 1, 1);
        FieldAfterField read = wafer(0, 0, 1, 0, 0, 1, 1, 1);
        read.read(0, 1, 1);
        read.read(1, 1, 1);
        read.read(2, 1, 1);
        plan(read, 3, 1, 7, 3, 1);
    }

    private static void ofSeveralTheFirst() {
        // {0, 1, 4}, {0, 2, 3} and {0, 2, 4} are alike; as whole numbers 19, 13 and 21.
        plan(wafer(-1, 1, 0, -1, -1, -1, 1, 0, 1, 1), 3, 1, 19, 3, 2);
        plan(field(-1, 1, 0, -1, -1, -1, 1, 0, 1, 1), 3, 2, 19, 3, 2);
        plan(wafer(1, 1, 1, 1, 1, 1, 1, 1), 3, 0, 7, 1, 3);
        plan(wafer(0, 0, 0, 0, 5, 0, 5, 0, 0, 5, 0, 5), 3, 1, 1 + 4 + 16, 1, 1);
    }

    private static void theLastMarksBit() {
        FieldAfterField x = wafer(1, 1, 1, 1, 1, 1, 1, 1, 1, 1, 2, 2, 2, 2, 2, 2, 2, 2, 3, 3, 4, 4, 0, 1);
        plan(x, 3, 1, 1 | 1 << 10 | 1 << 11, 1, 1);
        plan(x, 4, 1, 1 | 2 | 1 << 10 | 1 << 11, 1, 1);
        plan(x, 1, 0, 1, 1, 1);
    }

    private static void leastTerms() {
        plan(square(), 1, 0, 1, 1, 1);
        plan(square(), 6, 0, 63, 1, 6);
        plan(wafer(-5, -5, 5, -5, 5, 5, -5, 5), 4, 1, 15, 3, 4);
        plan(field(-3, -3, 3, -3, 3, 3, -3, 3), 4, 2, 15, 3, 4);
    }

    private static void greatestNumbers() {
        // The numbers that are weighed against one another here pass the greatest int.
        int[] corners = {5, 5, -5, 4, 5, 5, 4, 5, 4, -4, -4, 4, -4, -5, 4, -4, 4, -5, -5, 4, 5, -5, 4, 5};
        plan(wafer(corners), 6, 1, 3402, 14509, 21809);
        plan(wafer(corners), 3, 1, 259, 19865, 9801);
        int[] others = {-4, -5, 4, -5, 5, 5, 5, 5, -4, -5, 5, -5, 5, 5, -5, 5, 4, -4, -5, 4, -5, -5, -5, -5};
        plan(wafer(others), 6, 1, 3244, 2, 3);
        // The first three are close to a line: with them the worst would be 2661.
        plan(wafer(-5, -5, 0, -1, -4, -4), 3, 1, 7, 1, 1);
        plan(wafer(-5, -5, 0, -1, -4, -4, 5, -5), 3, 1, 11, 1, 1);
    }

    private static void twelveMarks() {
        int[] places = {0, 0, 0, 0, 0, 0, 0, 0, 0, 0, 0, 0, 5, 0, 5, 5, -5, 5, -5, 0, -5, -5, 5, -5};
        plan(wafer(places), 6, 1, 0xFC0, 7, 12);
        plan(wafer(places), 5, 1, 1 | 1 << 7 | 1 << 8 | 1 << 10 | 1 << 11, 7, 10);
        plan(wafer(places), 4, 1, 1 << 7 | 1 << 8 | 1 << 10 | 1 << 11, 3, 4);
        plan(wafer(places), 3, 1, 1 << 6 | 1 << 8 | 1 << 10, 3, 2);
        plan(wafer(places), 6, 0, 63, 1, 6);
        noPlan(wafer(places), 6, 2);
        // At one place all, but for the last two.
        plan(field(0, 0, 0, 0, 0, 0, 0, 0, 0, 0, 0, 0, 0, 0, 0, 0, 0, 0, 0, 0, 3, 0, 0, 3), 3, 2, 1 | 3 << 10, 1, 1);
    }
}
