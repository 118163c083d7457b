/** What is refused changes nothing, and neither does a question; the order of refusals. */
public final class RefusalsTest {
    private static final int UNKNOWN = -100001, OUTSIDE = -100002, NOT = -100003, FULL = -100004;
    private static final Check CHECK = new Check("RefusalsTest");

    public static void main(String[] args) {
        refused(false, calls());
        refused(true, new Object[][] {{FULL, "mark", 1, 1, 1, 1}, {FULL, "lot", 1, 1}, {OUTSIDE, "mark", 6, 1, 1, 1},
            {OUTSIDE, "lot", 1, -10000}, {UNKNOWN, "lot", 4, -10000}, {UNKNOWN, "read", 12, 0, 0},
            {UNKNOWN, "back", 60, 0}});
        questions();
        CHECK.end();
    }

    private static Object[][] calls() {
        return new Object[][] {
            {OUTSIDE, "mark", 6, 0, 0, 0}, {OUTSIDE, "mark", 0, 0, 0, -4},
            {UNKNOWN, "read", 5, 1, 1}, {UNKNOWN, "read", -1, 1000, 1}, {OUTSIDE, "read", 0, 5, 1000},
            {OUTSIDE, "read", 4, -1000, 5}, {UNKNOWN, "lose", 5}, {UNKNOWN, "lose", -1},
            {UNKNOWN, "told", 5, 8}, {OUTSIDE, "told", 0, 8}, {OUTSIDE, "count", 7}, {OUTSIDE, "det", 3},
            {OUTSIDE, "fit", 0, 0, 1, 0}, {NOT, "fit", 2, 0, 0, 0}, {UNKNOWN, "rest", 3, 2, 5, 2},
            {OUTSIDE, "rest", 3, 0, 4, 0}, {NOT, "rest", 0, 0, 4, 0}, {NOT, "rest", 2, 0, 0, 0},
            {OUTSIDE, "spread", 2, 2, 0}, {NOT, "spread", 2, 1, 0}, {OUTSIDE, "judge", 2, 0},
            {OUTSIDE, "judge", 0, 1000}, {NOT, "judge", 2, 1}, {OUTSIDE, "plan", 7, 2, 0}, {NOT, "plan", 3, 2, 0},
            {UNKNOWN, "lot", 4, 10000}, {OUTSIDE, "lot", 0, 10000}, {UNKNOWN, "back", 3, 10000},
            {OUTSIDE, "back", 0, 10000}, {OUTSIDE, "back", 1, -10000}, {UNKNOWN, "mend", 4}, {UNKNOWN, "mend", -1},
            {OUTSIDE, "gain", 0}, {OUTSIDE, "gain", 17}, {UNKNOWN, "state", 4, 4}, {OUTSIDE, "state", 0, 4},
            {UNKNOWN, "advice", 4}, {UNKNOWN, "offset", 4, 6, 1000}, {OUTSIDE, "offset", 0, 6, 1},
            {OUTSIDE, "offset", 1, 1, 1000}, {OUTSIDE, "rule", 0, 1999}, {OUTSIDE, "rule", 1, 7},
            {OUTSIDE, "rule", 2, 1}, {OUTSIDE, "route", 3, 3}, {NOT, "route", 3, 0}, {OUTSIDE, "bad", 2, 1000, 0},
            {NOT, "bad", 2, 0, 0}};
    }

    /** An object in the midst of things: a mark out, one lost, a read that is due, a tool mended. */
    private static FieldAfterField used(boolean full) {
        FieldAfterField x = new FieldAfterField();
        for (int m = 0; m < (full ? 12 : 5); m++) {
            x.mark(m % 3, m / 3, 0, 0);
        }
        x.read(0, 1, 2);
        x.read(1, 2, 1);
        x.read(2, 600, 3);
        x.read(3, 4, -4);
        x.judge(0, 300);
        for (int n = 0; n < (full ? 60 : 3); n++) {
            x.lot(n % 2, n);
        }
        x.back(0, 77);
        x.back(2, -8);
        x.mend(1);
        x.gain(5);
        x.rule(0, 2);
        x.rule(1, 2);
        for (int tool = 0; tool < 4; tool++) {
            x.offset(tool, 2, 40 + tool);
        }
        return x;
    }

    private static void refused(boolean full, Object[][] calls) {
        for (Object[] call : calls) {
            FieldAfterField x = used(full);
            String before = full ? brief(x) : Calls.look(x);
            int[] a = new int[4];
            for (int n = 2; n < call.length; n++) {
                a[n - 2] = (Integer) call[n];
            }
            String name = (String) call[1];
            CHECK.due(Calls.text(name, a), Calls.call(x, name, a), (Integer) call[0]);
            String after = full ? brief(x) : Calls.look(x);
            CHECK.holds(Calls.text(name, a) + " changes nothing", before.equals(after));
        }
    }

    /** Less than look, so that a full object stays within its calls. */
    private static String brief(FieldAfterField x) {
        StringBuilder seen = new StringBuilder();
        for (int what = 0; what <= 6; what++) {
            seen.append(x.count(what)).append(' ');
        }
        for (int m = 0; m < 12; m++) {
            seen.append(x.told(m, 0)).append(' ').append(x.told(m, 4)).append(' ').append(x.told(m, 6)).append(' ');
        }
        for (int n = 0; n <= 60; n++) {
            seen.append(x.state(n % 2, n)).append(' ');
        }
        return seen.toString();
    }

    private static void questions() {
        FieldAfterField x = used(false);
        x.rule(0, 1998);
        String before = Calls.look(x);
        String[] first = ask(x);
        String[] second = ask(x);
        for (int n = 0; n < first.length; n++) {
            CHECK.holds("question " + n + " answers alike when asked again", first[n].equals(second[n]));
        }
        CHECK.holds("questions change nothing", before.equals(Calls.look(x)));
    }

    private static String[] ask(FieldAfterField x) {
        return new String[] {"" + x.det(1), "" + x.fit(1, 0, 1, 0), "" + x.rest(0, 1, 2, 0), "" + x.spread(0, 0, 1),
            "" + x.plan(3, 1, 0), "" + x.plan(3, 1, 1), "" + x.state(0, 3), "" + x.advice(0), "" + x.route(6, -1),
            "" + x.route(4, 3), "" + x.bad(0, 1, 0), "" + x.bad(0, 1, 2), "" + x.told(2, 7), "" + x.count(6)};
    }
}
