/** Promises 1 to 6 at their boundaries: a new object, mark, read, lose, told, count. */
public final class EdgesOfMarksTest {
    private static final int UNKNOWN = -100001, OUTSIDE = -100002, NOT = -100003, FULL = -100004;
    private static final Edges EDGES = new Edges("EdgesOfMarksTest");

    public static void main(String[] args) {
        aNewObject();
        mark();
        read();
        lose();
        told();
        count();
        EDGES.end();
    }

    private static void aNewObject() {
        EDGES.sentence(1, "No MARKS", EdgesOfMarksTest::aNewObjectHasNoMarks);
        EDGES.sentence(1, "no LOTS", EdgesOfMarksTest::aNewObjectHasNoLots);
        EDGES.sentence(1, "all as at first", EdgesOfMarksTest::aNewObjectIsAsAtFirst);
        EDGES.sentence(1, "A new object", EdgesOfMarksTest::aNewObjectKnowsNothingOfAnother);
    }

    private static void mark() {
        EDGES.sentence(2, "column f, row g, -5 .. 5", EdgesOfMarksTest::columnAndRowFromMinus5To5);
        EDGES.sentence(2, "(i, j, -3 .. 3)", EdgesOfMarksTest::placeFromMinus3To3);
        EDGES.sentence(2, "MARKS (12 at most)", EdgesOfMarksTest::theTwelfthMarkAndTheOneAfter);
        EDGES.sentence(2, "OUTSIDE, FULL.", EdgesOfMarksTest::markIsOutsideAheadOfFull);
        EDGES.sentence(2, "What has a number has it from 0 on, as it comes",
                EdgesOfMarksTest::aRefusedMarkTakesNoNumber);
        EDGES.sentence(2, "a MARK is LOST at first", EdgesOfMarksTest::aMarkIsLostAtFirst);
    }

    private static void read() {
        EDGES.sentence(3, "along (0) and across (1), -999 .. 999", EdgesOfMarksTest::readsFromMinus999To999);
        EDGES.sentence(3, "it is not LOST any more, nor OUT", EdgesOfMarksTest::aReadMarkIsNeitherLostNorOut);
        EDGES.sentence(3, "UNKNOWN (a MARK", EdgesOfMarksTest::readOfAMarkThatThereIsNot);
        EDGES.sentence(3, "UNKNOWN, OUTSIDE.", EdgesOfMarksTest::readIsUnknownAheadOfOutside);
        EDGES.sentence(3, "What is refused changes nothing.", EdgesOfMarksTest::aRefusedReadLeavesLostAndOut);
    }

    private static void lose() {
        EDGES.sentence(4, "1 if it was not, 0.", EdgesOfMarksTest::loseTellsWhetherItWasNotLost);
        EDGES.sentence(4, "A MARK is LOST (and not OUT)", EdgesOfMarksTest::aLostMarkIsNotOut);
        EDGES.sentence(4, "UNKNOWN.", EdgesOfMarksTest::loseOfAMarkThatThereIsNot);
    }

    private static void told() {
        EDGES.sentence(5, "what = 0 f, 1 g, 2 i, 3 j, 4 along, 5 across", EdgesOfMarksTest::toldWhatFrom0To7);
        EDGES.sentence(5, "(0 of a LOST one)", EdgesOfMarksTest::readsOfALostMarkAre0);
        EDGES.sentence(5, "6 whether it is LOST (1, 0), 7 OUT", EdgesOfMarksTest::toldLostAndOut);
        EDGES.sentence(5, "UNKNOWN (a MARK", EdgesOfMarksTest::toldOfAMarkThatThereIsNot);
        EDGES.sentence(5, "UNKNOWN, OUTSIDE.", EdgesOfMarksTest::toldIsUnknownAheadOfOutside);
    }

    private static void count() {
        EDGES.sentence(6, "How many: 0 MARKS", EdgesOfMarksTest::countWhatFrom0To6);
        EDGES.sentence(6, "1 LOST, 2 OUT, 3 that COUNT", EdgesOfMarksTest::countsOfNoneAndOfTwelve);
        EDGES.sentence(6, "MARKS that COUNT: not LOST, not OUT", EdgesOfMarksTest::countsWithAllButOneOut);
        EDGES.sentence(6, "4 LOTS, 5 of these with READS", EdgesOfMarksTest::countsOfNoLotAndOfSixty);
        EDGES.sentence(6, "6 FIELDS with a MARK that COUNTS", EdgesOfMarksTest::fieldsOfNoneOneAndTwelve);
    }

    // ---- promise 1: a new object

    private static void aNewObjectHasNoMarks() {
        FieldAfterField x = new FieldAfterField();
        for (int what = 0; what <= 6; what++) {
            EDGES.due(0, x, "count", what);
        }
        EDGES.due(UNKNOWN, x, "told", 0, 0);
        EDGES.due(UNKNOWN, x, "read", 0, 0, 0);
        EDGES.due(UNKNOWN, x, "lose", 0);
        for (int model = 0; model <= 2; model++) {
            EDGES.due(0, x, "det", model);
            EDGES.due(NOT, x, "fit", model, 0, 0, 0);
            EDGES.due(UNKNOWN, x, "rest", model, 0, 0, 0);
            EDGES.due(NOT, x, "spread", model, 1, 1);
            EDGES.due(NOT, x, "judge", model, 999);
            EDGES.due(NOT, x, "bad", model, 0, 2);
            for (int k = 1; k <= 6; k++) {
                EDGES.due(NOT, x, "plan", k, model, 0);
            }
        }
    }

    private static void aNewObjectHasNoLots() {
        FieldAfterField x = new FieldAfterField();
        EDGES.due(0, x, "count", 4);
        EDGES.due(0, x, "count", 5);
        EDGES.due(UNKNOWN, x, "back", 0, 0);
        for (int tool = 0; tool <= 3; tool++) {
            EDGES.due(0, x, "state", tool, 0);
            EDGES.due(OUTSIDE, x, "state", tool, 1);
            EDGES.due(0, x, "advice", tool);
        }
    }

    private static void aNewObjectIsAsAtFirst() {
        FieldAfterField x = new FieldAfterField();
        for (int n = 1; n <= 6; n++) {
            for (int layer = -1; layer < n; layer++) {
                EDGES.due(0, x, "route", n, layer);
            }
        }
        for (int tool = 0; tool <= 3; tool++) {
            for (int layer = 0; layer <= 5; layer++) {
                EDGES.due(0, x, "offset", tool, layer, 1);
            }
        }
        EDGES.due(8, x, "gain", 1);
        EDGES.due(100, x, "rule", 0, 0);
        EDGES.due(6, x, "rule", 1, 1);
    }

    private static void aNewObjectKnowsNothingOfAnother() {
        String[] alone = new String[Looks.PARTS];
        for (int part = 0; part < Looks.PARTS; part++) {
            alone[part] = Looks.part(new FieldAfterField(), part);
        }
        FieldAfterField other = Edges.full();
        for (int part = 0; part < Looks.PARTS; part++) {
            EDGES.holds("part " + part + " is as without another object",
                    alone[part].equals(Looks.part(new FieldAfterField(), part)));
        }
        FieldAfterField late = new FieldAfterField();
        other.lose(0);
        EDGES.due(0, late, "count", 0);
        late.mark(5, 5, 3, 3);
        EDGES.due(0, other, "told", 0, 0);
    }

    // ---- promise 2: mark

    private static void columnAndRowFromMinus5To5() {
        EDGES.bounds(Edges::used, OUTSIDE, -5, 5, 0, "mark", 1, 2, 3, -3);
        EDGES.bounds(Edges::used, OUTSIDE, -5, 5, 1, "mark", 1, 2, 3, -3);
        FieldAfterField x = new FieldAfterField();
        EDGES.due(0, x, "mark", -5, 5, 0, 0);
        EDGES.due(1, x, "mark", 5, -5, 0, 0);
        EDGES.due(-5, x, "told", 0, 0);
        EDGES.due(5, x, "told", 0, 1);
        EDGES.due(5, x, "told", 1, 0);
        EDGES.due(-5, x, "told", 1, 1);
    }

    private static void placeFromMinus3To3() {
        EDGES.bounds(Edges::used, OUTSIDE, -3, 3, 2, "mark", 5, -5, 1, 2);
        EDGES.bounds(Edges::used, OUTSIDE, -3, 3, 3, "mark", 5, -5, 1, 2);
        FieldAfterField x = new FieldAfterField();
        EDGES.due(0, x, "mark", 0, 0, -3, 3);
        EDGES.due(1, x, "mark", 0, 0, 3, -3);
        EDGES.due(-3, x, "told", 0, 2);
        EDGES.due(3, x, "told", 0, 3);
        EDGES.due(3, x, "told", 1, 2);
        EDGES.due(-3, x, "told", 1, 3);
    }

    private static void theTwelfthMarkAndTheOneAfter() {
        FieldAfterField x = new FieldAfterField();
        for (int m = 0; m < 12; m++) {
            EDGES.due(m, x, "mark", m % 5, 0, 0, 0);
        }
        EDGES.due(FULL, x, "mark", 0, 0, 0, 0);
        EDGES.due(12, x, "count", 0);
        EDGES.due(1, x, "told", 11, 0);
        EDGES.due(UNKNOWN, x, "told", 12, 0);
        EDGES.due(1, x, "read", 11, 7, 8);
        EDGES.due(7, x, "told", 11, 4);
        EDGES.due(1, x, "count", 3);
        EDGES.due(1, x, "lose", 11);
        // To lose a mark makes no room for another one.
        EDGES.due(FULL, x, "mark", 0, 0, 0, 0);
        EDGES.refused(Edges::full, FULL, "mark", 5, 5, 3, 3);
    }

    private static void markIsOutsideAheadOfFull() {
        EDGES.refused(Edges::full, OUTSIDE, "mark", 6, 0, 0, 0);
        EDGES.refused(Edges::full, OUTSIDE, "mark", 0, -6, 0, 0);
        EDGES.refused(Edges::full, OUTSIDE, "mark", 0, 0, 4, 0);
        EDGES.refused(Edges::full, OUTSIDE, "mark", 0, 0, 0, -4);
    }

    private static void aRefusedMarkTakesNoNumber() {
        FieldAfterField x = new FieldAfterField();
        EDGES.due(OUTSIDE, x, "mark", 6, 0, 0, 0);
        EDGES.due(0, x, "mark", 1, 0, 0, 0);
        EDGES.due(OUTSIDE, x, "mark", 0, 0, 0, 4);
        EDGES.due(1, x, "mark", 2, 0, 0, 0);
        EDGES.due(1, x, "told", 0, 0);
        EDGES.due(2, x, "told", 1, 0);
        // Two marks at one place are two marks.
        EDGES.due(2, x, "mark", 2, 0, 0, 0);
        EDGES.due(3, x, "count", 0);
    }

    private static void aMarkIsLostAtFirst() {
        FieldAfterField x = new FieldAfterField();
        for (int m = 0; m < 12; m++) {
            x.mark(0, 0, 0, 0);
            EDGES.due(1, x, "told", m, 6);
            EDGES.due(0, x, "told", m, 7);
            EDGES.due(m + 1, x, "count", 1);
        }
        EDGES.due(0, x, "lose", 11);
        EDGES.due(0, x, "det", 0);
    }

    // ---- promise 3: read

    private static void readsFromMinus999To999() {
        EDGES.bounds(Edges::used, OUTSIDE, -999, 999, 1, "read", 0, 5, 6);
        EDGES.bounds(Edges::used, OUTSIDE, -999, 999, 2, "read", 0, 5, 6);
        FieldAfterField x = Edges.used();
        EDGES.due(1, x, "read", 0, -999, 999);
        EDGES.due(-999, x, "told", 0, 4);
        EDGES.due(999, x, "told", 0, 5);
        EDGES.due(1, x, "read", 0, 999, -999);
        EDGES.due(999, x, "told", 0, 4);
        EDGES.due(-999, x, "told", 0, 5);
        EDGES.due(1, x, "read", 0, 0, 0);
        EDGES.due(0, x, "told", 0, 4);
        EDGES.due(0, x, "told", 0, 6);
    }

    private static void aReadMarkIsNeitherLostNorOut() {
        FieldAfterField x = Edges.used();
        EDGES.due(1, x, "told", 2, 7);
        EDGES.due(1, x, "read", 2, 600, 3);
        EDGES.due(0, x, "told", 2, 7);
        EDGES.due(0, x, "told", 2, 6);
        EDGES.due(1, x, "read", 4, 0, 0);
        EDGES.due(0, x, "told", 4, 6);
        EDGES.due(5, x, "count", 3);
        EDGES.due(1, x, "read", 4, 0, 0);
        EDGES.due(5, x, "count", 3);
    }

    private static void readOfAMarkThatThereIsNot() {
        EDGES.bounds(Edges::used, UNKNOWN, 0, 4, 0, "read", 0, 5, 6);
        EDGES.bounds(Edges::full, UNKNOWN, 0, 11, 0, "read", 0, 5, 6);
        EDGES.refused(FieldAfterField::new, UNKNOWN, "read", 0, 5, 6);
    }

    private static void readIsUnknownAheadOfOutside() {
        EDGES.refused(Edges::used, UNKNOWN, "read", 5, 1000, 0);
        EDGES.refused(Edges::used, UNKNOWN, "read", -1, 0, -1000);
    }

    private static void aRefusedReadLeavesLostAndOut() {
        EDGES.refused(Edges::used, OUTSIDE, "read", 2, 1000, 0);
        EDGES.refused(Edges::used, OUTSIDE, "read", 2, 0, -1000);
        EDGES.refused(Edges::used, OUTSIDE, "read", 4, -1000, 0);
        EDGES.refused(Edges::used, OUTSIDE, "read", 4, 0, 1000);
    }

    // ---- promise 4: lose

    private static void loseTellsWhetherItWasNotLost() {
        FieldAfterField x = new FieldAfterField();
        x.mark(0, 0, 0, 0);
        EDGES.due(0, x, "lose", 0);
        x.read(0, 0, 0);
        EDGES.due(1, x, "lose", 0);
        EDGES.due(0, x, "lose", 0);
        EDGES.due(1, x, "told", 0, 6);
        x.read(0, 0, 0);
        EDGES.due(1, x, "lose", 0);
    }

    private static void aLostMarkIsNotOut() {
        FieldAfterField x = Edges.used();
        EDGES.due(1, x, "told", 2, 7);
        EDGES.due(1, x, "lose", 2);
        EDGES.due(0, x, "told", 2, 7);
        EDGES.due(1, x, "told", 2, 6);
        EDGES.due(0, x, "count", 2);
        EDGES.due(2, x, "count", 1);
        EDGES.due(0, x, "lose", 2);
    }

    private static void loseOfAMarkThatThereIsNot() {
        EDGES.bounds(Edges::used, UNKNOWN, 0, 4, 0, "lose", 0);
        EDGES.bounds(Edges::full, UNKNOWN, 0, 11, 0, "lose", 0);
        EDGES.refused(FieldAfterField::new, UNKNOWN, "lose", 0);
    }

    // ---- promise 5: told

    private static void toldWhatFrom0To7() {
        EDGES.bounds(Edges::used, OUTSIDE, 0, 7, 1, "told", 0, 0);
        FieldAfterField x = new FieldAfterField();
        x.mark(-5, 5, -3, 3);
        x.read(0, -999, 999);
        int[] want = {-5, 5, -3, 3, -999, 999, 0, 0};
        for (int what = 0; what <= 7; what++) {
            EDGES.due(want[what], x, "told", 0, what);
        }
    }

    private static void readsOfALostMarkAre0() {
        FieldAfterField x = new FieldAfterField();
        x.mark(-5, 5, -3, 3);
        EDGES.due(0, x, "told", 0, 4);
        EDGES.due(0, x, "told", 0, 5);
        x.read(0, -999, 999);
        x.lose(0);
        EDGES.due(0, x, "told", 0, 4);
        EDGES.due(0, x, "told", 0, 5);
        EDGES.due(-5, x, "told", 0, 0);
        EDGES.due(3, x, "told", 0, 3);
        // One that is out is not lost: its reads are told.
        FieldAfterField out = Edges.used();
        EDGES.due(600, out, "told", 2, 4);
        EDGES.due(3, out, "told", 2, 5);
    }

    private static void toldLostAndOut() {
        FieldAfterField x = Edges.used();
        int[] lost = {0, 0, 0, 0, 1};
        int[] out = {0, 0, 1, 0, 0};
        for (int m = 0; m <= 4; m++) {
            EDGES.due(lost[m], x, "told", m, 6);
            EDGES.due(out[m], x, "told", m, 7);
        }
    }

    private static void toldOfAMarkThatThereIsNot() {
        EDGES.bounds(Edges::used, UNKNOWN, 0, 4, 0, "told", 0, 0);
        EDGES.bounds(Edges::full, UNKNOWN, 0, 11, 0, "told", 0, 7);
        EDGES.refused(FieldAfterField::new, UNKNOWN, "told", 0, 0);
    }

    private static void toldIsUnknownAheadOfOutside() {
        EDGES.refused(Edges::used, UNKNOWN, "told", 5, 8);
        EDGES.refused(Edges::used, UNKNOWN, "told", -1, -1);
    }

    // ---- promise 6: count

    private static void countWhatFrom0To6() {
        EDGES.bounds(Edges::used, OUTSIDE, 0, 6, 0, "count", 0);
        int[] want = {5, 1, 1, 3, 3, 2, 3};
        for (int what = 0; what <= 6; what++) {
            EDGES.due(want[what], Edges.used(), "count", what);
        }
    }

    private static void countsOfNoneAndOfTwelve() {
        FieldAfterField x = new FieldAfterField();
        counts(x, 0, 0, 0, 0);
        for (int m = 0; m < 12; m++) {
            x.mark(0, 0, 0, 0);
        }
        counts(x, 12, 12, 0, 0);
        for (int m = 0; m < 12; m++) {
            x.read(m, 0, 0);
        }
        counts(x, 12, 0, 0, 12);
    }

    private static void counts(FieldAfterField x, int... want) {
        for (int what = 0; what < want.length; what++) {
            EDGES.due(want[what], x, "count", what);
        }
    }

    private static void countsWithAllButOneOut() {
        FieldAfterField x = new FieldAfterField();
        for (int m = 0; m < 12; m++) {
            x.mark(m % 4, 0, 0, 0);
            x.read(m, 83 * m, 0);
        }
        EDGES.due(11, x, "judge", 0, 1);
        counts(x, 12, 0, 11, 1, 0, 0, 1);
        for (int m = 0; m < 12; m++) {
            x.lose(m);
        }
        counts(x, 12, 12, 0, 0, 0, 0, 0);
    }

    private static void countsOfNoLotAndOfSixty() {
        FieldAfterField x = new FieldAfterField();
        EDGES.due(0, x, "count", 4);
        EDGES.due(0, x, "count", 5);
        for (int n = 0; n < 60; n++) {
            x.lot(n % 4, 0);
        }
        EDGES.due(60, x, "count", 4);
        EDGES.due(0, x, "count", 5);
        for (int n = 0; n < 60; n++) {
            x.back(n, 0);
            EDGES.due(n + 1, x, "count", 5);
        }
        // Another read in place of one is no further lot with reads.
        x.back(59, 5);
        EDGES.due(60, x, "count", 5);
    }

    private static void fieldsOfNoneOneAndTwelve() {
        FieldAfterField x = new FieldAfterField();
        for (int m = 0; m < 12; m++) {
            x.mark(m % 2 == 0 ? 1 : 2, m % 2 == 0 ? 2 : 1, m % 3, 0);
        }
        EDGES.due(0, x, "count", 6);
        x.read(0, 0, 0);
        EDGES.due(1, x, "count", 6);
        x.read(2, 0, 0);
        EDGES.due(1, x, "count", 6);
        x.read(1, 0, 0);
        EDGES.due(2, x, "count", 6);
        x.lose(0);
        EDGES.due(2, x, "count", 6);
        x.lose(2);
        EDGES.due(1, x, "count", 6);
        FieldAfterField y = new FieldAfterField();
        for (int m = 0; m < 12; m++) {
            y.mark(m % 6 - 5, m < 6 ? -5 : 5, 0, 0);
            y.read(m, m == 0 ? 900 : 0, 0);
        }
        EDGES.due(12, y, "count", 6);
        y.judge(0, 500);
        EDGES.due(11, y, "count", 6);
    }
}
