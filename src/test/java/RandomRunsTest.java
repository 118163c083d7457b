import java.util.Random;

/** Long runs of calls, each answer against that of the oracle; the runs are the same every time. */
public final class RandomRunsTest {
    private static final int RUNS = 400;
    private static final int CALLS = 512;
    private static final int[] WILD = {Integer.MIN_VALUE, Integer.MAX_VALUE, -100001, -2, -1, 12, 60, 61, 1000,
        -1000, 10000, -10000, 1 << 16, -(1 << 31) + 1};

    private final Random random;
    private final int width;
    private final int depth;

    private RandomRunsTest(int seed) {
        random = new Random(seed);
        width = random.nextInt(6);
        depth = random.nextInt(4);
    }

    public static void main(String[] args) {
        Check check = new Check("RandomRunsTest");
        for (int run = 0; run < RUNS && check.wrong() < 20; run++) {
            new RandomRunsTest(run).run(check, run);
        }
        check.end();
    }

    private void run(Check check, int run) {
        FieldAfterField x = new FieldAfterField();
        Oracle oracle = new Oracle();
        String[] part = partOf(run);
        for (int n = 0; n < CALLS; n++) {
            String name = part[random.nextInt(part.length)];
            if (name.equals("plan") && random.nextInt(8) != 0) {
                name = "read";
            }
            int[] a = arguments(name, oracle);
            if (random.nextInt(12) == 0) {
                a[random.nextInt(Calls.arity(name))] = WILD[random.nextInt(WILD.length)];
            }
            check.due("run " + run + ", call " + n + ": " + Calls.text(name, a),
                    Calls.call(x, name, a), Calls.call(oracle, name, a));
        }
    }

    private static String[] partOf(int run) {
        switch (run % 4) {
            case 0:
                return new String[] {"mark", "read", "read", "read", "read", "lose", "told", "count", "det", "fit",
                    "rest", "spread", "judge", "plan", "bad", "bad"};
            case 1:
                return new String[] {"lot", "lot", "lot", "back", "back", "mend", "gain", "state", "state",
                    "state", "advice", "count"};
            case 2:
                return new String[] {"offset", "offset", "offset", "rule", "route", "route", "route"};
            default:
                return Calls.NAMES;
        }
    }

    /** From least to most, and now and then one beyond, or right at an end. */
    private int near(int least, int most) {
        switch (random.nextInt(16)) {
            case 0: return least;
            case 1: return most;
            case 2: return random.nextBoolean() ? least - 1 : most + 1;
            default: return least + random.nextInt(most - least + 1);
        }
    }

    /** As near, but now mostly small, so that like numbers come often. */
    private int small(int most, int size) {
        return random.nextInt(8) == 0 ? near(-most, most) : random.nextInt(2 * size + 1) - size;
    }

    private int[] arguments(String name, Oracle oracle) {
        int lastMark = Math.max(0, oracle.count(0) - 1);
        int lots = oracle.count(4);
        switch (name) {
            case "mark":
                return new int[] {small(5, width), small(5, width), small(3, depth), small(3, depth)};
            case "read":
                return new int[] {near(0, lastMark), small(999, 20), small(999, 20)};
            case "lose": return new int[] {near(0, lastMark)};
            case "told": return new int[] {near(0, lastMark), near(0, 7)};
            case "count": return new int[] {near(0, 6)};
            case "det": return new int[] {near(0, 2)};
            case "fit": return new int[] {near(0, 2), near(0, 1), near(0, 2), near(0, 1)};
            case "rest": return new int[] {near(0, 2), near(0, 1), near(0, lastMark), near(0, 1)};
            case "spread": return new int[] {near(0, 2), near(0, 1), near(0, 1)};
            case "judge": return new int[] {near(0, 2), random.nextBoolean() ? near(1, 20) : near(1, 999)};
            case "plan": return new int[] {near(1, 6), near(0, 2), near(0, 2)};
            case "lot": return new int[] {near(0, 3), small(9999, 50)};
            case "back": return new int[] {near(0, Math.max(0, lots - 1)), small(9999, 50)};
            case "mend": return new int[] {near(0, 3)};
            case "gain": return new int[] {near(1, 16)};
            case "state": return new int[] {near(0, 3), near(0, lots)};
            case "advice": return new int[] {near(0, 3)};
            case "offset": return new int[] {near(0, 3), near(0, 5), small(999, 9)};
            case "rule":
                return random.nextBoolean() ? new int[] {near(0, 1), near(1, 6)}
                        : new int[] {0, random.nextBoolean() ? near(0, 30) : near(0, 1998)};
            case "route":
                int n = near(1, 6);
                return new int[] {n, near(-1, Math.max(0, n - 1))};
            default:
                return new int[] {near(0, 2), random.nextBoolean() ? near(0, 20) : near(0, 999), near(0, 2)};
        }
    }
}
