/** Calls by their names, so that tests can go through them all. */
final class Calls {
    static final String[] NAMES = {"mark", "read", "lose", "told", "count", "det", "fit", "rest", "spread",
        "judge", "plan", "lot", "back", "mend", "gain", "state", "advice", "offset", "rule", "route", "bad"};

    private Calls() {
    }

    static int arity(String name) {
        switch (name) {
            case "mark": case "fit": case "rest":
                return 4;
            case "read": case "spread": case "plan": case "offset": case "bad":
                return 3;
            case "told": case "judge": case "lot": case "back": case "state": case "rule": case "route":
                return 2;
            default:
                return 1;
        }
    }

    static String text(String name, int[] a) {
        StringBuilder text = new StringBuilder(name).append('(');
        for (int n = 0; n < arity(name); n++) {
            text.append(n == 0 ? "" : ", ").append(a[n]);
        }
        return text.append(')').toString();
    }

    static long call(FieldAfterField x, String name, int... a) {
        switch (name) {
            case "mark": return x.mark(a[0], a[1], a[2], a[3]);
            case "read": return x.read(a[0], a[1], a[2]);
            case "lose": return x.lose(a[0]);
            case "told": return x.told(a[0], a[1]);
            case "count": return x.count(a[0]);
            case "det": return x.det(a[0]);
            case "fit": return x.fit(a[0], a[1], a[2], a[3]);
            case "rest": return x.rest(a[0], a[1], a[2], a[3]);
            case "spread": return x.spread(a[0], a[1], a[2]);
            case "judge": return x.judge(a[0], a[1]);
            case "plan": return x.plan(a[0], a[1], a[2]);
            case "lot": return x.lot(a[0], a[1]);
            case "back": return x.back(a[0], a[1]);
            case "mend": return x.mend(a[0]);
            case "gain": return x.gain(a[0]);
            case "state": return x.state(a[0], a[1]);
            case "advice": return x.advice(a[0]);
            case "offset": return x.offset(a[0], a[1], a[2]);
            case "rule": return x.rule(a[0], a[1]);
            case "route": return x.route(a[0], a[1]);
            case "bad": return x.bad(a[0], a[1], a[2]);
            default: throw new IllegalArgumentException(name);
        }
    }

    static long call(Oracle x, String name, int... a) {
        switch (name) {
            case "mark": return x.mark(a[0], a[1], a[2], a[3]);
            case "read": return x.read(a[0], a[1], a[2]);
            case "lose": return x.lose(a[0]);
            case "told": return x.told(a[0], a[1]);
            case "count": return x.count(a[0]);
            case "det": return x.det(a[0]);
            case "fit": return x.fit(a[0], a[1], a[2], a[3]);
            case "rest": return x.rest(a[0], a[1], a[2], a[3]);
            case "spread": return x.spread(a[0], a[1], a[2]);
            case "judge": return x.judge(a[0], a[1]);
            case "plan": return x.plan(a[0], a[1], a[2]);
            case "lot": return x.lot(a[0], a[1]);
            case "back": return x.back(a[0], a[1]);
            case "mend": return x.mend(a[0]);
            case "gain": return x.gain(a[0]);
            case "state": return x.state(a[0], a[1]);
            case "advice": return x.advice(a[0]);
            case "offset": return x.offset(a[0], a[1], a[2]);
            case "rule": return x.rule(a[0], a[1]);
            case "route": return x.route(a[0], a[1]);
            case "bad": return x.bad(a[0], a[1], a[2]);
            default: throw new IllegalArgumentException(name);
        }
    }
}
