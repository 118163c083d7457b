import java.util.function.Supplier;

/** What the document says ahead of the promises, at its boundaries: refusals, questions, 512 calls. */
public final class EdgesOfTermsTest {
    private static final int NONE = -1, UNKNOWN = -100001, OUTSIDE = -100002, NOT = -100003, FULL = -100004;
    private static final Edges EDGES = new Edges("EdgesOfTermsTest");

    public static void main(String[] args) {
        EDGES.sentence(Edges.ALL, "NONE = -1, UNKNOWN = -100001, OUTSIDE = -100002, NOT = -100003, FULL = -100004",
                EdgesOfTermsTest::constants);
        EDGES.sentence(Edges.ALL, "REFUSALS, of several the first in this order: UNKNOWN",
                EdgesOfTermsTest::unknownIsFirst);
        EDGES.sentence(Edges.ALL, "OUTSIDE (another number out of its bounds), NOT (not now, as told), FULL",
                EdgesOfTermsTest::outsideIsAheadOfNotAndFull);
        EDGES.sentence(Edges.ALL, "What is refused changes nothing.", EdgesOfTermsTest::manyRefusalsChangeNothing);
        EDGES.sentence(Edges.ALL, "Nothing is promised beyond the answers and state changes described above",
                EdgesOfTermsTest::questionsChangeNothing);
        EDGES.sentence(Edges.ALL, "An object is used for at most 512 calls after it has been made",
                EdgesOfTermsTest::theLastOf512Calls);
        EDGES.end();
    }

    private static void constants() {
        EDGES.holds("NONE is -1", FieldAfterField.NONE == NONE);
        EDGES.holds("UNKNOWN is -100001", FieldAfterField.UNKNOWN == UNKNOWN);
        EDGES.holds("OUTSIDE is -100002", FieldAfterField.OUTSIDE == OUTSIDE);
        EDGES.holds("NOT is -100003", FieldAfterField.NOT == NOT);
        EDGES.holds("FULL is -100004", FieldAfterField.FULL == FULL);
    }

    private static void unknownIsFirst() {
        EDGES.refused(Edges::used, UNKNOWN, "read", 5, 1000, -1000);
        EDGES.refused(Edges::used, UNKNOWN, "told", 5, 8);
        EDGES.refused(Edges::used, UNKNOWN, "rest", 3, 2, 5, 2);
        EDGES.refused(Edges::used, UNKNOWN, "rest", 2, 0, 5, 0);
        EDGES.refused(FieldAfterField::new, UNKNOWN, "rest", 3, 2, 0, 2);
        EDGES.refused(Edges::full, UNKNOWN, "lot", 4, 10000);
        EDGES.refused(Edges::full, UNKNOWN, "lot", 4, 0);
        EDGES.refused(Edges::used, UNKNOWN, "back", 3, 10000);
        EDGES.refused(Edges::used, UNKNOWN, "state", 4, 4);
        EDGES.refused(Edges::used, UNKNOWN, "offset", 4, 6, 1000);
    }

    private static void outsideIsAheadOfNotAndFull() {
        EDGES.refused(Edges::full, OUTSIDE, "mark", 6, 0, 0, 0);
        EDGES.refused(Edges::full, OUTSIDE, "lot", 0, 10000);
        EDGES.refused(Edges::used, OUTSIDE, "fit", 2, 0, 3, 0);
        EDGES.refused(Edges::used, OUTSIDE, "rest", 2, 2, 4, 0);
        EDGES.refused(Edges::used, OUTSIDE, "spread", 2, 2, 0);
        EDGES.refused(Edges::used, OUTSIDE, "judge", 2, 0);
        EDGES.refused(Edges::used, OUTSIDE, "plan", 3, 2, 3);
        EDGES.refused(Edges::used, OUTSIDE, "route", 3, 3);
        EDGES.refused(Edges::used, OUTSIDE, "bad", 2, 1000, 0);
    }

    /** Refusals one after the other, of one object: what each leaves could show with the next only. */
    private static void manyRefusalsChangeNothing() {
        for (int part = 0; part < Looks.PARTS; part++) {
            same(Edges::used, part, EdgesOfTermsTest::refuseMany);
            same(Edges::full, part, EdgesOfTermsTest::refuseMany);
        }
    }

    private static void refuseMany(FieldAfterField x) {
        int marks = x.count(0);
        int lots = x.count(4);
        EDGES.due(OUTSIDE, x, "mark", 6, 5, 3, 3);
        EDGES.due(UNKNOWN, x, "read", marks, 1, 1);
        EDGES.due(OUTSIDE, x, "read", 0, 1000, 1);
        EDGES.due(UNKNOWN, x, "lose", marks);
        EDGES.due(NOT, x, "fit", 2, 0, 0, 0);
        EDGES.due(NOT, x, "judge", 2, 1);
        EDGES.due(OUTSIDE, x, "judge", 0, 0);
        EDGES.due(NOT, x, "plan", 2, 1, 0);
        EDGES.due(OUTSIDE, x, "lot", 1, 10000);
        EDGES.due(UNKNOWN, x, "back", lots, 1);
        EDGES.due(OUTSIDE, x, "back", 1, 10000);
        EDGES.due(UNKNOWN, x, "mend", 4);
        EDGES.due(OUTSIDE, x, "gain", 17);
        EDGES.due(OUTSIDE, x, "offset", 0, 0, 1000);
        EDGES.due(OUTSIDE, x, "rule", 0, 1999);
        EDGES.due(OUTSIDE, x, "rule", 1, 7);
        EDGES.due(NOT, x, "route", 3, NONE);
        EDGES.due(NOT, x, "bad", 2, 0, 0);
    }

    private static void questionsChangeNothing() {
        for (int part = 0; part < Looks.PARTS; part++) {
            same(Edges::used, part, EdgesOfTermsTest::askMuch);
            same(Edges::full, part, EdgesOfTermsTest::askMuch);
        }
    }

    private static void askMuch(FieldAfterField x) {
        for (int again = 0; again < 2; again++) {
            EDGES.due(600, x, "told", 2, 4);
            EDGES.due(3, x, "count", 3);
            EDGES.due(1, x, "det", 1);
            EDGES.fraction(7, 3, x, "fit", 0, 0, 0);
            EDGES.fraction(597, 1, x, "rest", 1, 0, 2);
            EDGES.fraction(14, 3, x, "spread", 0, 0);
            EDGES.due(7, x, "plan", 3, 0, 0);
            EDGES.due(24062, x, "state", 0, 2);
            EDGES.due(0, x, "advice", 1);
            EDGES.due(0, x, "route", 2, NONE);
            EDGES.due(0, x, "bad", 1, 0, 0);
            EDGES.due(3, x, "bad", 0, 1, 0);
            EDGES.due(2, x, "bad", 0, 2, 0);
        }
    }

    private interface Doing {
        void with(FieldAfterField x);
    }

    private static void same(Supplier<FieldAfterField> made, int part, Doing doing) {
        FieldAfterField x = made.get();
        doing.with(x);
        EDGES.holds("part " + part + " is as if nothing had been asked",
                Looks.part(x, part).equals(Looks.part(made.get(), part)));
    }

    private static void theLastOf512Calls() {
        FieldAfterField x = new FieldAfterField();
        for (int m = 0; m < 12; m++) {
            x.mark(m % 4, m / 4, m % 3, m / 3 % 2);
            x.read(m, 10 * m, -m);
        }
        for (int n = 0; n < 60; n++) {
            x.lot(n % 4, 0);
        }
        // 84 calls so far, 416 in this loop, and 12 more behind it.
        for (int n = 0; n < 208; n++) {
            x.mend(n % 4);
            x.judge(n % 3, 999);
        }
        for (int n = 0; n < 11; n++) {
            EDGES.due(63, x, "plan", 6, 0, 0);
        }
        EDGES.due(12, x, "count", 3);
    }
}
