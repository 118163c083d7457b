/** Promise 11 at its boundaries: judge, and the law of liars. */
public final class EdgesOfJudgeTest {
    private static final int OUTSIDE = -100002, NOT = -100003;
    private static final Edges EDGES = new Edges("EdgesOfJudgeTest");

    public static void main(String[] args) {
        EDGES.sentence(11, "OUTSIDE (MODEL, LIMIT)", EdgesOfJudgeTest::judgeModelFrom0To2);
        EDGES.sentence(11, "MARKS are OUT by the law with a LIMIT (1 .. 999)", EdgesOfJudgeTest::limitFrom1To999);
        EDGES.sentence(11, "and above LIMIT, goes OUT", EdgesOfJudgeTest::aRestAtTheLimitStays);
        EDGES.sentence(11, "whose greater REST of both ways (by size)", EdgesOfJudgeTest::bySizeAndBothWays);
        EDGES.sentence(11, "is greatest, and above LIMIT", EdgesOfJudgeTest::theGreatestGoesFirst);
        EDGES.sentence(11, "(of like ones the first)", EdgesOfJudgeTest::ofLikeOnesTheFirst);
        EDGES.sentence(11, "again and again, as long as FITS STAND", EdgesOfJudgeTest::againAndAgain);
        EDGES.sentence(11, "till there is none", EdgesOfJudgeTest::tillThereIsNone);
        EDGES.sentence(11, "or no more FIT would STAND without it (it stays then, and that is the end)",
                EdgesOfJudgeTest::whatTheFitCannotStandWithoutStays);
        EDGES.sentence(11, "all that are not LOST COUNT at first", EdgesOfJudgeTest::allThatAreNotLostCountAtFirst);
        EDGES.sentence(11, "NOT: FIT would not STAND with all", EdgesOfJudgeTest::notWithAll);
        EDGES.sentence(11, "(OUT stays as it was)", EdgesOfJudgeTest::outStaysAsItWas);
        EDGES.sentence(11, "OUTSIDE (another number out of its bounds), NOT", EdgesOfJudgeTest::outsideAheadOfNot);
        EDGES.sentence(11, "MARKS (12 at most)", EdgesOfJudgeTest::twelveMarks);
        EDGES.end();
    }

    /** All marks at one place: the fit of model 0 is the mean. */
    private static FieldAfterField along(int... reads) {
        FieldAfterField x = new FieldAfterField();
        for (int m = 0; m < reads.length; m++) {
            x.mark(0, 0, 0, 0);
            x.read(m, reads[m], 0);
        }
        return x;
    }

    private static FieldAfterField at(int[]... places) {
        FieldAfterField x = new FieldAfterField();
        for (int m = 0; m < places.length; m++) {
            x.mark(places[m][0], places[m][1], 0, 0);
            x.read(m, places[m][2], 0);
        }
        return x;
    }

    /** The law's answer, and which marks are out after it: bit m for mark m. */
    private static void judged(FieldAfterField x, int model, int limit, int out) {
        EDGES.due(Integer.bitCount(out), x, "judge", model, limit);
        for (int m = 0; m < x.count(0); m++) {
            EDGES.due(out >> m & 1, x, "told", m, 7);
        }
        EDGES.due(Integer.bitCount(out), x, "count", 2);
    }

    private static void judgeModelFrom0To2() {
        EDGES.bounds(EdgesOfJudgeTest::fourCorners, OUTSIDE, 0, 2, 0, "judge", 0, 5);
        EDGES.refused(Edges::used, OUTSIDE, "judge", 3, 5);
        EDGES.refused(Edges::used, OUTSIDE, "judge", -1, 5);
    }

    private static FieldAfterField fourCorners() {
        FieldAfterField x = new FieldAfterField();
        for (int m = 0; m < 4; m++) {
            x.mark(m % 2, m / 2, m % 2, m / 2);
            x.read(m, m * m * m, 0);
        }
        return x;
    }

    private static void limitFrom1To999() {
        EDGES.bounds(Edges::used, OUTSIDE, 1, 999, 1, "judge", 0, 5);
        EDGES.bounds(Edges::used, OUTSIDE, 1, 999, 1, "judge", 1, 5);
        judged(along(0, 3), 0, 1, 1);
        judged(along(999, -999, -1), 0, 999, 1);
    }

    private static void aRestAtTheLimitStays() {
        judged(along(0, 2), 0, 1, 0);
        judged(along(0, 3), 0, 1, 1);
        judged(along(0, 10), 0, 5, 0);
        judged(along(0, 11), 0, 5, 1);
        judged(along(999, -999), 0, 999, 0);
        judged(along(999, -999, 0), 0, 999, 0);
        // A third beyond the limit, above and below.
        judged(along(999, -999, -1), 0, 999, 1);
        judged(along(999, -999, 1), 0, 999, 2);
    }

    private static void bySizeAndBothWays() {
        judged(along(0, 0, -30), 0, 15, 4);
        judged(along(0, 0, 30), 0, 15, 4);
        FieldAfterField x = along(0, 0, 0, 0);
        x.read(1, 0, -40);
        judged(x, 0, 29, 2);
        judged(x, 0, 30, 0);
        x.read(2, 44, 0);
        judged(x, 0, 32, 4);
        x.read(1, 44, 0);
        x.read(2, 0, 40);
        judged(x, 0, 32, 2);
    }

    private static void theGreatestGoesFirst() {
        // The mean is 41 at first, so that 0, 1, 2 and 3 are above 30 as well till 200 is out.
        judged(along(0, 1, 2, 40, 200, 3), 0, 31, 1 << 4);
        judged(along(0, 1, 2, 40, 200, 3), 0, 30, 1 << 4 | 1 << 3);
        judged(along(200, 0, 0, -201), 0, 199, 1 << 3);
    }

    private static void ofLikeOnesTheFirst() {
        judged(along(0, 10), 0, 4, 1);
        judged(along(10, 0), 0, 4, 1);
        judged(along(0, -10, 10), 0, 9, 2);
        judged(along(0, 10, -10), 0, 9, 2);
        FieldAfterField ways = along(0, 0, 0, 0);
        ways.read(1, 0, 10);
        ways.read(2, 10, 0);
        judged(ways, 0, 7, 2);
        ways.read(1, -10, 0);
        ways.read(2, 0, -10);
        judged(ways, 0, 7, 2);
    }

    private static void againAndAgain() {
        // Each time one of like ones at both ends goes, the mean moves to the other end.
        judged(along(0, 10, 20, 30), 0, 1, 7);
        judged(along(0, 10, 20, 30), 0, 5, 3);
        judged(along(0, 10, 20, 30), 0, 10, 1);
        judged(along(0, 10, 20, 30), 0, 15, 0);
        // By the first fit mark 0 is above 90 too, by the one without mark 4 it is not.
        judged(along(-100, 0, 0, 0, 104), 0, 90, 1 << 4);
    }

    private static void tillThereIsNone() {
        judged(along(0, 0, 0), 0, 1, 0);
        judged(along(7), 0, 1, 0);
        judged(along(-999), 0, 999, 0);
        judged(along(0, 0, 0, 999), 0, 1, 8);
    }

    private static void whatTheFitCannotStandWithoutStays() {
        FieldAfterField one = along(999);
        judged(one, 0, 1, 0);
        EDGES.due(1, one, "det", 0);
        FieldAfterField three = at(new int[] {0, 0, 999}, new int[] {1, 0, -999}, new int[] {0, 1, 500});
        judged(three, 1, 1, 0);
        EDGES.due(1, three, "det", 1);
        // All but mark 4 lie in a line: without it there is no fit, however far off it is read.
        FieldAfterField line = at(new int[] {0, 0, 0}, new int[] {1, 1, 0}, new int[] {2, 2, 100}, new int[] {3, 3, 0},
                new int[] {0, 1, 999});
        judged(line, 1, 1, 4);
        // The mark next to the one that goes, ahead of it or behind it, is the one that has to stay.
        FieldAfterField behind = at(new int[] {0, 0, 0}, new int[] {1, 1, 100}, new int[] {0, 1, 999},
                new int[] {2, 2, 0}, new int[] {3, 3, 0});
        judged(behind, 1, 1, 2);
        FieldAfterField ahead = at(new int[] {0, 1, 999}, new int[] {1, 1, 100}, new int[] {0, 0, 0},
                new int[] {2, 2, 0}, new int[] {3, 3, 0});
        judged(ahead, 1, 1, 2);
        FieldAfterField bent = at(new int[] {0, 0, 0}, new int[] {1, 1, 500}, new int[] {2, 2, -500},
                new int[] {0, 1, -999});
        EDGES.due(1, bent, "judge", 1, 1);
        EDGES.due(0, bent, "told", 3, 7);
        EDGES.due(3, bent, "count", 3);
        EDGES.holds("the fit still stands", bent.det(1) != 0);
    }

    private static void allThatAreNotLostCountAtFirst() {
        FieldAfterField x = along(0, 0, 0, 100);
        judged(x, 0, 50, 8);
        judged(x, 0, 75, 0);
        judged(x, 0, 74, 8);
        // A lost one is not judged, and takes no part.
        x.mark(0, 0, 0, 0);
        judged(x, 0, 75, 0);
        judged(x, 0, 74, 8);
        x.lose(3);
        judged(x, 0, 1, 0);
        // With what counts no fit of model 1 would stand, but with all that are not lost it does.
        FieldAfterField y = at(new int[] {0, 0, 0}, new int[] {1, 0, 0}, new int[] {0, 1, 900});
        judged(y, 0, 500, 4);
        EDGES.due(NOT, y, "spread", 1, 0, 0);
        judged(y, 1, 999, 0);
        EDGES.fraction(0, 1, y, "spread", 1, 0);
    }

    private static void notWithAll() {
        for (int model = 0; model <= 2; model++) {
            EDGES.refused(FieldAfterField::new, NOT, "judge", model, 1);
            EDGES.refused(EdgesOfJudgeTest::threeLost, NOT, "judge", model, 999);
        }
        EDGES.refused(() -> along(0, 500, 999), NOT, "judge", 1, 1);
        EDGES.refused(() -> at(new int[] {0, 0, 999}, new int[] {1, 0, -999}), NOT, "judge", 1, 1);
        EDGES.refused(() -> at(new int[] {0, 0, 9}, new int[] {1, 1, -9}, new int[] {2, 2, 9}), NOT, "judge", 1, 1);
    }

    private static FieldAfterField threeLost() {
        FieldAfterField x = new FieldAfterField();
        x.mark(0, 0, 0, 0);
        x.mark(1, 0, 1, 0);
        x.mark(0, 1, 0, 1);
        return x;
    }

    private static void outStaysAsItWas() {
        EDGES.refused(Edges::used, NOT, "judge", 2, 1);
        EDGES.refused(Edges::used, NOT, "judge", 2, 999);
        FieldAfterField x = Edges.used();
        EDGES.due(NOT, x, "judge", 2, 1);
        EDGES.due(1, x, "told", 2, 7);
        EDGES.due(1, x, "count", 2);
    }

    private static void outsideAheadOfNot() {
        EDGES.refused(Edges::used, OUTSIDE, "judge", 2, 0);
        EDGES.refused(Edges::used, OUTSIDE, "judge", 2, 1000);
        EDGES.refused(FieldAfterField::new, OUTSIDE, "judge", 0, 0);
        EDGES.refused(FieldAfterField::new, OUTSIDE, "judge", 3, 5);
    }

    private static void twelveMarks() {
        int[] spaced = new int[12];
        for (int m = 0; m < 12; m++) {
            spaced[m] = 83 * m;
        }
        judged(along(spaced), 0, 1, 0x7FF);
        int[][] places = {{5, 5, 999}, {-5, 5, -999}, {5, -5, -640}, {-5, -5, 777}, {0, 0, -333}, {3, -2, 125},
            {-1, 4, -871}, {2, 2, 444}, {-4, 0, -50}, {0, -3, 610}, {1, 5, -222}, {-2, -4, 38}};
        FieldAfterField x = at(places);
        // Down to three, without one of which no fit would stand.
        judged(x, 1, 1, 0xFFF & ~(1 << 1 | 1 << 3 | 1 << 5));
        EDGES.due(6400, x, "det", 1);
    }
}
