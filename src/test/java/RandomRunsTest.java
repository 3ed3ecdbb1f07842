/** Long runs of made-up calls, the same ones each time, on WellRights and on the model of it. */
final class RandomRunsTest {
    private static final int CALLS_OF_AN_OBJECT = 512;
    private static final int RUNS = 3000;
    private static final String[] CALLS = {
        "addWell", "addWell", "plan", "plan", "plan", "setRecharge", "reach", "level", "level", "sign", "year", "year",
        "year", "year", "years", "wouldStop", "wouldStop", "wouldStop", "drew", "told", "told", "toggleMeter", "power",
        "bank", "bank", "lend", "lend", "callBack", "callBack", "fines", "fund", "build"
    };
    private static final int[] WILD = {
        Integer.MIN_VALUE, Integer.MIN_VALUE + 1, -10001, -10000, -2, -1, 0, 1, 2, 3, 7, 8, 9, 99, 100, 1000, 1001,
        2000, 2001, 10000, 10001, Integer.MAX_VALUE - 1, Integer.MAX_VALUE
    };

    private static final int[][] ONE_WELL = {{0, 7}};
    private static final int[][] TWO_WELLS = {{0, 7}, {0, 7}};

    private long state;

    private RandomRunsTest(long seed) {
        state = seed;
    }

    static void answersAreThoseOfTheModel() {
        int before = Check.faults();
        for (int run = 0; run < RUNS && Check.faults() == before; run++) {
            new RandomRunsTest(run).compare(run, false);
        }
    }

    static void answersAtTheEdgesAreThoseOfTheModel() {
        int before = Check.faults();
        for (int run = 0; run < RUNS && Check.faults() == before; run++) {
            new RandomRunsTest(-1 - run).compare(run, true);
        }
    }

    private void compare(int run, boolean atEdges) {
        WellRights rights = new WellRights();
        Model model = new Model();
        boolean crowded = run % 2 == 0;
        for (int k = 0; k < CALLS_OF_AN_OBJECT; k++) {
            String call = CALLS[below(CALLS.length)];
            int[] arguments = argumentsOf(call, crowded);
            if (atEdges) {
                moveToEdges(arguments, rangesOf(call));
            }
            String want = model.answer(call, arguments);
            String got = answer(rights, call, arguments);
            if (!got.equals(want)) {
                Check.fault("run " + run + ", call " + k + ": " + call + java.util.Arrays.toString(arguments)
                        + " answered " + got + ", due is " + want);
                return;
            }
        }
    }

    private int below(int bound) {
        state = state * 6364136223846793005L + 1442695040888963407L;
        return (int) ((state >>> 33) % bound);
    }

    private int[] argumentsOf(String call, boolean crowded) {
        int[] a = new int[6];
        switch (call) {
            case "addWell":
                a[0] = below(3);
                a[1] = crowded ? 40 + below(12) : below(100);
                a[2] = below(600);
                a[3] = below(600) - 100;
                a[4] = below(5);
                a[5] = below(crowded ? 300 : 60);
                break;
            case "setRecharge":
                a[0] = below(3);
                a[1] = below(200);
                break;
            case "build":
                a[0] = crowded ? 40 + below(12) : below(100);
                break;
            case "sign":
                a[0] = below(8);
                a[1] = below(13) - 1;
                break;
            case "reach":
            case "lend":
            case "callBack":
                a[0] = below(8);
                a[1] = below(8);
                a[2] = 1 + below(90);
                break;
            default:
                a[0] = below(8);
                a[1] = below(3) == 0 ? below(12) : below(150);
        }
        if (below(12) == 0) {
            a[below(6)] = WILD[below(WILD.length)];
        }
        return a;
    }

    /** Puts some arguments on the first or last values of their ranges and, seldom, on the first ones outside. */
    private void moveToEdges(int[] a, int[][] ranges) {
        for (int k = 0; k < ranges.length; k++) {
            int least = ranges[k][0];
            int most = ranges[k][1];
            int[] edges = {least, least + 1, most - 1, most};
            if (below(3) > 0) {
                a[k] = below(40) > 0 ? edges[below(edges.length)] : below(2) == 0 ? least - 1 : most + 1;
            }
        }
    }

    private static int[][] rangesOf(String call) {
        switch (call) {
            case "addWell": return new int[][] {{0, 2}, {0, 99}, {-10000, 10000}, {-10000, 10000}, {0, 1000}, {0, 1000}};
            case "plan": return new int[][] {{0, 7}, {0, 2000}};
            case "setRecharge": return new int[][] {{0, 2}, {0, 1000}};
            case "sign": return new int[][] {{0, 7}, {0, 11}};
            case "power": return new int[][] {{0, 7}, {0, 1000}};
            case "lend": return new int[][] {{0, 7}, {0, 7}, {1, 10000}};
            case "build": return new int[][] {{0, 99}};
            case "reach":
            case "callBack": return TWO_WELLS;
            default: return ONE_WELL;
        }
    }

    static String[] names() {
        return CALLS.clone();
    }

    static String answer(WellRights rights, String call, int[] a) {
        try {
            return "" + number(rights, call, a);
        } catch (RuntimeException thrown) {
            String name = "throws." + thrown.getClass().getSimpleName();
            return Check.isOwnThrow(thrown) ? name : name + " of the machine or the library";
        }
    }

    private static int number(WellRights rights, String call, int[] a) {
        switch (call) {
            case "addWell": return rights.addWell(a[0], a[1], a[2], a[3], a[4], a[5]);
            case "plan": return rights.plan(a[0], a[1]);
            case "setRecharge": return rights.setRecharge(a[0], a[1]);
            case "reach": return rights.reach(a[0], a[1]);
            case "level": return rights.level(a[0]);
            case "sign": return rights.sign(a[0], a[1]);
            case "year": return rights.year();
            case "years": return rights.years();
            case "wouldStop": return rights.wouldStop();
            case "drew": return rights.drew(a[0]);
            case "told": return rights.told(a[0]);
            case "toggleMeter": return rights.toggleMeter(a[0]) ? 1 : 0;
            case "power": return rights.power(a[0], a[1]);
            case "bank": return rights.bank(a[0]);
            case "lend": return rights.lend(a[0], a[1], a[2]);
            case "callBack": return rights.callBack(a[0], a[1]);
            case "fines": return rights.fines(a[0]);
            case "fund": return rights.fund();
            case "build": return rights.build(a[0]);
            default: throw new AssertionError("no such call: " + call);
        }
    }
}
