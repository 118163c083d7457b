/**
 * All that an object tells, in parts: each part on an object of its own stays within the 512 calls
 * that an object is good for. A look may change the object, which is not used any more after it.
 */
final class Looks {
    static final int PARTS = 5;

    private Looks() {
    }

    static String part(FieldAfterField x, int part) {
        StringBuilder seen = new StringBuilder();
        switch (part) {
            case 0: lookAtMarks(x, seen); break;
            case 1: lookAtFits(x, seen); break;
            case 2: lookAtPlans(x, seen); break;
            case 3: lookAtLots(x, seen); break;
            default: lookAtTools(x, seen); break;
        }
        return seen.toString();
    }

    private static void add(StringBuilder seen, long answer) {
        seen.append(answer).append(' ');
    }

    private static void lookAtMarks(FieldAfterField x, StringBuilder seen) {
        for (int what = 0; what <= 6; what++) {
            add(seen, x.count(what));
        }
        for (int m = 0; m < x.count(0); m++) {
            for (int what = 0; what <= 7; what++) {
                add(seen, x.told(m, what));
            }
        }
    }

    private static void lookAtFits(FieldAfterField x, StringBuilder seen) {
        int marks = x.count(0);
        for (int model = 0; model <= 2; model++) {
            add(seen, x.det(model));
            for (int way = 0; way <= 1; way++) {
                for (int what = 0; what <= 1; what++) {
                    lookAtFit(x, seen, marks, model, way, what);
                }
            }
            for (int what = 0; what <= 2; what++) {
                add(seen, x.bad(model, 0, what));
                add(seen, x.bad(model, 2, what));
            }
        }
        add(seen, x.judge(1, 1));
        add(seen, x.judge(0, 1));
    }

    private static void lookAtFit(FieldAfterField x, StringBuilder seen, int marks, int model, int way, int what) {
        for (int t = 0; t <= (model == 0 ? 0 : 2); t++) {
            add(seen, x.fit(model, way, t, what));
        }
        for (int m = 0; m < marks; m++) {
            add(seen, x.rest(model, way, m, what));
        }
        add(seen, x.spread(model, way, what));
    }

    private static void lookAtPlans(FieldAfterField x, StringBuilder seen) {
        for (int k = 1; k <= 6; k++) {
            for (int model = 0; model <= 2; model++) {
                for (int what = 0; what <= 2; what++) {
                    add(seen, x.plan(k, model, what));
                }
            }
        }
    }

    private static void lookAtLots(FieldAfterField x, StringBuilder seen) {
        int lots = x.count(4);
        for (int tool = 0; tool < 4; tool++) {
            for (int n = 0; n <= lots; n++) {
                add(seen, x.state(tool, n));
            }
            add(seen, x.advice(tool));
        }
        add(seen, x.gain(1));
    }

    private static void lookAtTools(FieldAfterField x, StringBuilder seen) {
        for (int n = 1; n <= 6; n++) {
            for (int layer = -1; layer < n; layer++) {
                add(seen, x.route(n, layer));
            }
        }
        for (int tool = 0; tool < 4; tool++) {
            for (int layer = 0; layer < 6; layer++) {
                add(seen, x.offset(tool, layer, 0));
            }
        }
        add(seen, x.rule(0, 0));
        add(seen, x.rule(1, 1));
    }
}
