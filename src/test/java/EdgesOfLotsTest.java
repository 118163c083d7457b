/** Promises 13 to 18 at their boundaries: lot, back, mend, gain, state, advice. */
public final class EdgesOfLotsTest {
    private static final int UNKNOWN = -100001, OUTSIDE = -100002, FULL = -100004;
    private static final Edges EDGES = new Edges("EdgesOfLotsTest");

    public static void main(String[] args) {
        lot();
        back();
        mend();
        gain();
        state();
        advice();
        EDGES.end();
    }

    private static void lot() {
        EDGES.sentence(13, "each made with a TOOL (0 .. 3)", EdgesOfLotsTest::lotToolFrom0To3);
        EDGES.sentence(13, "a SHIFT asked for (-9999 .. 9999)", EdgesOfLotsTest::shiftFromMinus9999To9999);
        EDGES.sentence(13, "LOTS (60 at most)", EdgesOfLotsTest::theSixtiethLotAndTheOneAfter);
        EDGES.sentence(13, "UNKNOWN (TOOL), OUTSIDE, FULL.", EdgesOfLotsTest::lotIsUnknownThenOutsideThenFull);
        EDGES.sentence(13, "What has a number has it from 0 on, as it comes",
                EdgesOfLotsTest::aRefusedLotTakesNoNumber);
    }

    private static void back() {
        EDGES.sentence(14, "its READ comes (-9999 .. 9999)", EdgesOfLotsTest::backReadFromMinus9999To9999);
        EDGES.sentence(14, "UNKNOWN (a MARK, LOT", EdgesOfLotsTest::backOfALotThatThereIsNot);
        EDGES.sentence(14, "UNKNOWN, OUTSIDE.", EdgesOfLotsTest::backIsUnknownAheadOfOutside);
        EDGES.sentence(14, "(or another one in its place)", EdgesOfLotsTest::anotherReadInItsPlace);
        EDGES.sentence(14, "later, or never, its READ comes", EdgesOfLotsTest::aReadOf0AndNoRead);
        EDGES.sentence(14, "as if all READS that are there had come in time", EdgesOfLotsTest::theFirstReadComesLast);
    }

    private static void mend() {
        EDGES.sentence(15, "UNKNOWN (a MARK, LOT, TOOL that there is not)", EdgesOfLotsTest::mendToolFrom0To3);
        EDGES.sentence(15, "MENDED, a TOOL has STATE 0 ahead of the next LOT",
                EdgesOfLotsTest::mendedAheadOfTheNextLot);
        EDGES.sentence(15, "(LOTS from that number on)", EdgesOfLotsTest::lotsFromThatNumberOn);
        EDGES.sentence(15, "A TOOL is MENDED: 1.", EdgesOfLotsTest::mendedWithoutLotsAndWithSixty);
    }

    private static void gain() {
        EDGES.sentence(16, "GAIN (1 .. 16; 8 at first)", EdgesOfLotsTest::gainFrom1To16);
        EDGES.sentence(16, "(THE BOOK is worked through by GAIN as it is.)", EdgesOfLotsTest::gainForEarlierLotsToo);
    }

    private static void state() {
        EDGES.sentence(17, "UNKNOWN (a MARK, LOT, TOOL that there is not)", EdgesOfLotsTest::stateToolFrom0To3);
        EDGES.sentence(17, "ahead of LOT n (0 .. LOTS", EdgesOfLotsTest::stateNFrom0ToLots);
        EDGES.sentence(17, "UNKNOWN, OUTSIDE.", EdgesOfLotsTest::stateIsUnknownAheadOfOutside);
        EDGES.sentence(17, "MENDED by then counts", EdgesOfLotsTest::mendedByThenCounts);
        EDGES.sentence(17, "STATE of a TOOL, in thousandths, is 0 at first", EdgesOfLotsTest::stateIs0AtFirst);
        EDGES.sentence(17, "by one without it stays", EdgesOfLotsTest::byALotWithoutAReadItStays);
        EDGES.sentence(17, "/ cuts towards 0", EdgesOfLotsTest::stateIsCutTowards0);
        EDGES.sentence(17, "STATE of its TOOL becomes STATE and GAIN", EdgesOfLotsTest::greatestStates);
    }

    private static void advice() {
        EDGES.sentence(18, "UNKNOWN (a MARK, LOT, TOOL that there is not)", EdgesOfLotsTest::adviceToolFrom0To3);
        EDGES.sentence(18, "less STATE / 1000, cut", EdgesOfLotsTest::adviceIsCutTowards0);
        EDGES.sentence(18, "ADVICE for a TOOL", EdgesOfLotsTest::adviceAfterTheLastLot);
        EDGES.sentence(18, "what STATE would be taken off by", EdgesOfLotsTest::greatestAdvice);
    }

    /** Lots of tool 0 without a shift, all with reads. */
    private static FieldAfterField lotsOf0(int gain, int... reads) {
        FieldAfterField x = new FieldAfterField();
        x.gain(gain);
        for (int n = 0; n < reads.length; n++) {
            x.lot(0, 0);
            x.back(n, reads[n]);
        }
        return x;
    }

    private static void states(FieldAfterField x, int tool, int... want) {
        for (int n = 0; n < want.length; n++) {
            EDGES.due(want[n], x, "state", tool, n);
        }
    }

    // ---- promise 13: lot

    private static void lotToolFrom0To3() {
        EDGES.bounds(Edges::used, UNKNOWN, 0, 3, 0, "lot", 0, 5);
        EDGES.bounds(FieldAfterField::new, UNKNOWN, 0, 3, 0, "lot", 0, 5);
        FieldAfterField x = new FieldAfterField();
        for (int tool = 0; tool <= 3; tool++) {
            EDGES.due(tool, x, "lot", tool, 0);
            x.back(tool, 2);
        }
        for (int tool = 0; tool <= 3; tool++) {
            EDGES.due(0, x, "state", tool, tool);
            EDGES.due(1000, x, "state", tool, tool + 1);
            EDGES.due(1000, x, "state", tool, 4);
        }
    }

    private static void shiftFromMinus9999To9999() {
        EDGES.bounds(Edges::used, OUTSIDE, -9999, 9999, 1, "lot", 0, 5);
        EDGES.bounds(Edges::used, OUTSIDE, -9999, 9999, 1, "lot", 3, 5);
        FieldAfterField x = new FieldAfterField();
        x.gain(16);
        x.lot(0, -9999);
        x.lot(0, 9999);
        x.back(0, 0);
        x.back(1, 0);
        states(x, 0, 0, 9999000, -9999000);
    }

    private static void theSixtiethLotAndTheOneAfter() {
        FieldAfterField x = new FieldAfterField();
        for (int n = 0; n < 60; n++) {
            EDGES.due(n, x, "lot", n % 4, n);
        }
        EDGES.due(FULL, x, "lot", 0, 0);
        EDGES.due(60, x, "count", 4);
        EDGES.due(1, x, "back", 59, 75);
        EDGES.due(8000, x, "state", 3, 60);
        EDGES.due(0, x, "state", 3, 59);
        EDGES.due(OUTSIDE, x, "state", 3, 61);
        EDGES.due(UNKNOWN, x, "back", 60, 75);
        EDGES.refused(Edges::full, FULL, "lot", 0, 0);
        EDGES.refused(Edges::full, FULL, "lot", 3, -9999);
    }

    private static void lotIsUnknownThenOutsideThenFull() {
        EDGES.refused(Edges::full, UNKNOWN, "lot", 4, 10000);
        EDGES.refused(Edges::full, UNKNOWN, "lot", -1, 0);
        EDGES.refused(Edges::full, OUTSIDE, "lot", 3, 10000);
        EDGES.refused(Edges::full, OUTSIDE, "lot", 0, -10000);
        EDGES.refused(Edges::used, UNKNOWN, "lot", 4, -10000);
    }

    private static void aRefusedLotTakesNoNumber() {
        FieldAfterField x = new FieldAfterField();
        EDGES.due(UNKNOWN, x, "lot", 4, 0);
        EDGES.due(0, x, "lot", 1, 0);
        EDGES.due(OUTSIDE, x, "lot", 1, 10000);
        EDGES.due(1, x, "lot", 1, 0);
        EDGES.due(2, x, "lot", 1, 0);
    }

    // ---- promise 14: back

    private static void backReadFromMinus9999To9999() {
        EDGES.bounds(Edges::used, OUTSIDE, -9999, 9999, 1, "back", 0, 5);
        // Of a lot without a read, too: a refused read is none.
        EDGES.bounds(Edges::used, OUTSIDE, -9999, 9999, 1, "back", 1, 5);
        states(lotsOf0(16, 9999, -9999), 0, 0, 9999000, -9999000);
    }

    private static void backOfALotThatThereIsNot() {
        EDGES.bounds(Edges::used, UNKNOWN, 0, 2, 0, "back", 0, 5);
        EDGES.bounds(Edges::full, UNKNOWN, 0, 59, 0, "back", 0, 5);
        EDGES.refused(FieldAfterField::new, UNKNOWN, "back", 0, 5);
    }

    private static void backIsUnknownAheadOfOutside() {
        EDGES.refused(Edges::used, UNKNOWN, "back", 3, 10000);
        EDGES.refused(Edges::used, UNKNOWN, "back", -1, -10000);
    }

    private static void anotherReadInItsPlace() {
        FieldAfterField x = lotsOf0(16, 9999, 4);
        EDGES.due(1, x, "back", 0, -9999);
        states(x, 0, 0, -9999000, 4000);
        EDGES.due(1, x, "back", 0, 0);
        states(x, 0, 0, 0, 4000);
        EDGES.due(2, x, "count", 5);
    }

    private static void aReadOf0AndNoRead() {
        FieldAfterField x = new FieldAfterField();
        x.gain(16);
        x.lot(0, 0);
        x.lot(0, 7);
        x.back(0, 5);
        states(x, 0, 0, 5000, 5000);
        EDGES.due(1, x, "count", 5);
        EDGES.due(1, x, "back", 1, 0);
        states(x, 0, 0, 5000, -7000);
        EDGES.due(2, x, "count", 5);
    }

    private static void theFirstReadComesLast() {
        FieldAfterField x = new FieldAfterField();
        for (int n = 0; n < 60; n++) {
            x.lot(0, 0);
        }
        for (int n = 59; n >= 0; n--) {
            x.back(n, n % 3);
        }
        FieldAfterField inTime = new FieldAfterField();
        for (int n = 0; n < 60; n++) {
            inTime.lot(0, 0);
            inTime.back(n, n % 3);
        }
        for (int n = 0; n <= 60; n++) {
            EDGES.due(inTime.state(0, n), x, "state", 0, n);
        }
        states(x, 0, 0, 0, 500, 1250, 625);
    }

    // ---- promise 15: mend

    private static void mendToolFrom0To3() {
        EDGES.bounds(Edges::used, UNKNOWN, 0, 3, 0, "mend", 0);
        EDGES.bounds(Edges::full, UNKNOWN, 0, 3, 0, "mend", 0);
        FieldAfterField x = new FieldAfterField();
        for (int tool = 0; tool <= 3; tool++) {
            x.lot(tool, 0);
            x.back(tool, 2);
        }
        for (int tool = 0; tool <= 3; tool++) {
            EDGES.due(1, x, "mend", tool);
            EDGES.due(0, x, "state", tool, 4);
            for (int other = tool + 1; other <= 3; other++) {
                EDGES.due(1000, x, "state", other, 4);
            }
        }
    }

    private static void mendedAheadOfTheNextLot() {
        FieldAfterField x = lotsOf0(8, 4, 4);
        states(x, 0, 0, 2000, 3000);
        EDGES.due(1, x, "mend", 0);
        states(x, 0, 0, 2000, 0);
        x.lot(0, 0);
        states(x, 0, 0, 2000, 0, 0);
        x.back(2, 4);
        states(x, 0, 0, 2000, 0, 2000);
        // The next lot may be of another tool: the mended one is at 0 all the same.
        FieldAfterField y = lotsOf0(8, 4);
        y.mend(0);
        y.lot(1, 0);
        y.back(1, 4);
        states(y, 0, 0, 0, 0);
        states(y, 1, 0, 0, 2000);
    }

    private static void lotsFromThatNumberOn() {
        FieldAfterField x = lotsOf0(8, 4);
        x.lot(0, 0);
        x.mend(0);
        x.lot(0, 0);
        x.mend(0);
        x.mend(0);
        x.lot(0, 0);
        states(x, 0, 0, 2000, 0, 0, 0);
        // Reads of lots ahead of where it was mended come late, and change nothing behind it.
        x.back(1, 100);
        states(x, 0, 0, 2000, 0, 0, 0);
        x.back(2, 6);
        states(x, 0, 0, 2000, 0, 0, 0);
        x.back(3, 8);
        states(x, 0, 0, 2000, 0, 0, 4000);
        EDGES.due(-4, x, "advice", 0);
    }

    private static void mendedWithoutLotsAndWithSixty() {
        FieldAfterField x = new FieldAfterField();
        EDGES.due(1, x, "mend", 0);
        EDGES.due(1, x, "mend", 0);
        states(x, 0, 0);
        x.lot(0, 0);
        x.back(0, 4);
        states(x, 0, 0, 2000);
        for (int n = 1; n < 60; n++) {
            x.lot(0, 0);
        }
        EDGES.due(2000, x, "state", 0, 60);
        EDGES.due(1, x, "mend", 0);
        EDGES.due(0, x, "state", 0, 60);
        EDGES.due(2000, x, "state", 0, 59);
        EDGES.due(0, x, "advice", 0);
        EDGES.due(FULL, x, "lot", 0, 0);
    }

    // ---- promise 16: gain

    private static void gainFrom1To16() {
        EDGES.bounds(Edges::used, OUTSIDE, 1, 16, 0, "gain", 5);
        EDGES.bounds(FieldAfterField::new, OUTSIDE, 1, 16, 0, "gain", 8);
        FieldAfterField x = new FieldAfterField();
        EDGES.due(8, x, "gain", 1);
        EDGES.due(OUTSIDE, x, "gain", 0);
        EDGES.due(1, x, "gain", 16);
        EDGES.due(OUTSIDE, x, "gain", 17);
        EDGES.due(16, x, "gain", 16);
        states(lotsOf0(1, 16, 16), 0, 0, 1000, 1937);
        states(lotsOf0(16, 16, -16), 0, 0, 16000, -16000);
    }

    private static void gainForEarlierLotsToo() {
        FieldAfterField x = lotsOf0(8, 16, 0);
        states(x, 0, 0, 8000, 4000);
        x.gain(16);
        states(x, 0, 0, 16000, 0);
        x.gain(1);
        states(x, 0, 0, 1000, 938);
    }

    // ---- promise 17: state

    private static void stateToolFrom0To3() {
        EDGES.bounds(Edges::used, UNKNOWN, 0, 3, 0, "state", 0, 3);
        EDGES.bounds(FieldAfterField::new, UNKNOWN, 0, 3, 0, "state", 0, 0);
    }

    private static void stateNFrom0ToLots() {
        EDGES.bounds(FieldAfterField::new, OUTSIDE, 0, 0, 1, "state", 0, 0);
        EDGES.bounds(Edges::used, OUTSIDE, 0, 3, 1, "state", 0, 0);
        EDGES.bounds(Edges::full, OUTSIDE, 0, 60, 1, "state", 3, 0);
    }

    private static void stateIsUnknownAheadOfOutside() {
        EDGES.refused(Edges::used, UNKNOWN, "state", 4, 4);
        EDGES.refused(Edges::used, UNKNOWN, "state", -1, -1);
    }

    private static void mendedByThenCounts() {
        FieldAfterField x = lotsOf0(8, 4, 4, 4);
        x.mend(0);
        states(x, 0, 0, 2000, 3000, 0);
        x.lot(0, 0);
        x.back(3, 4);
        states(x, 0, 0, 2000, 3000, 0, 2000);
    }

    private static void stateIs0AtFirst() {
        FieldAfterField x = lotsOf0(16, 5);
        for (int tool = 0; tool <= 3; tool++) {
            EDGES.due(0, x, "state", tool, 0);
        }
        EDGES.due(5000, x, "state", 0, 1);
        EDGES.due(0, x, "state", 1, 1);
    }

    private static void byALotWithoutAReadItStays() {
        FieldAfterField x = lotsOf0(8, 4);
        for (int n = 1; n < 60; n++) {
            x.lot(0, 9999);
        }
        for (int n = 1; n <= 60; n++) {
            EDGES.due(2000, x, "state", 0, n);
        }
    }

    private static void stateIsCutTowards0() {
        // 3000 / 16 is 187 and a half, and 187 / 16 is 11 and more.
        states(lotsOf0(1, 3, 0), 0, 0, 187, 176);
        states(lotsOf0(1, -3, 0), 0, 0, -187, -176);
        // A thousandth that is left of a gain of 15 is cut to nothing.
        states(lotsOf0(15, 1, 1, 1, 1), 0, 0, 937, 996, 999, 999);
        states(lotsOf0(15, -1, -1, -1, -1), 0, 0, -937, -996, -999, -999);
    }

    /** Each lot as far off as can be, now above and now below. */
    private static FieldAfterField farOff(int gain) {
        FieldAfterField x = new FieldAfterField();
        x.gain(gain);
        for (int n = 0; n < 60; n++) {
            x.lot(3, n % 2 == 0 ? -9999 : 9999);
            x.back(n, n % 2 == 0 ? 9999 : -9999);
        }
        return x;
    }

    private static void greatestStates() {
        states(farOff(16), 3, 0, 19998000, -19998000, 19998000);
        EDGES.due(-19998000, farOff(16), "state", 3, 60);
        states(farOff(15), 3, 0, 18748125, -17576367);
        EDGES.due(17645294, farOff(15), "state", 3, 59);
        EDGES.due(-17645294, farOff(15), "state", 3, 60);
        states(farOff(1), 3, 0, 1249875, -78117);
        EDGES.due(-631673, farOff(1), "state", 3, 60);
        FieldAfterField sameWay = new FieldAfterField();
        sameWay.gain(15);
        for (int n = 0; n < 60; n++) {
            sameWay.lot(2, -9999);
            sameWay.back(n, 9999);
        }
        states(sameWay, 2, 0, 18748125, 19919882);
        EDGES.due(19997999, sameWay, "state", 2, 60);
    }

    // ---- promise 18: advice

    private static void adviceToolFrom0To3() {
        EDGES.bounds(Edges::used, UNKNOWN, 0, 3, 0, "advice", 0);
        EDGES.bounds(FieldAfterField::new, UNKNOWN, 0, 3, 0, "advice", 0);
    }

    private static void adviceIsCutTowards0() {
        EDGES.due(0, lotsOf0(15, 1, 1, 1), "advice", 0);
        EDGES.due(0, lotsOf0(15, -1, -1, -1), "advice", 0);
        EDGES.due(-1, lotsOf0(16, 1), "advice", 0);
        EDGES.due(1, lotsOf0(16, -1), "advice", 0);
        EDGES.due(-1, lotsOf0(15, 2, 2, 2), "advice", 0);
        EDGES.due(1, lotsOf0(15, -2, -2, -2), "advice", 0);
        EDGES.due(0, lotsOf0(16, 0), "advice", 0);
    }

    private static void adviceAfterTheLastLot() {
        FieldAfterField x = lotsOf0(16, 3, 8);
        EDGES.due(-8, x, "advice", 0);
        EDGES.due(0, x, "advice", 1);
        x.mend(0);
        EDGES.due(0, x, "advice", 0);
        EDGES.due(0, new FieldAfterField(), "advice", 3);
    }

    private static void greatestAdvice() {
        EDGES.due(19998, farOff(16), "advice", 3);
        FieldAfterField x = new FieldAfterField();
        x.gain(16);
        x.lot(3, -9999);
        x.back(0, 9999);
        EDGES.due(-19998, x, "advice", 3);
        EDGES.due(0, x, "advice", 0);
    }
}
