/** Counts the answers that are not the ones due, and ends the test with exit code 1 if there was one. */
final class Check {
    /** Stands for a call that threw an ArithmeticException. */
    static final long THROWN = Long.MIN_VALUE + 1;

    private static int asked = 0;
    private static int wrong = 0;

    private Check() {
    }

    static void due(String call, long got, long want) {
        asked++;
        if (got != want) {
            wrong++;
            System.out.println(call + " answered " + got + ", due is " + want);
        }
    }

    static void dueTrue(String what, boolean holds) {
        due(what, holds ? 1 : 0, 1);
    }

    static long meanOf(RaceTuning x, int setting, int n, int side) {
        try {
            return x.mean(setting, n, side);
        } catch (ArithmeticException e) {
            return THROWN;
        }
    }

    static int wrongOnes() {
        return wrong;
    }

    static void end() {
        System.out.println(asked + " answers looked at, " + wrong + " not as due");
        if (wrong != 0 || asked == 0) {
            System.exit(1);
        }
    }

    /** A table with these costs, a row for each setting; all instances learn and have features 0, 0. */
    static RaceTuning raced(int[][] costs) {
        RaceTuning x = new RaceTuning();
        for (int s = 0; s < costs.length; s++) {
            x.setting();
        }
        for (int i = 0; i < costs[0].length; i++) {
            x.instance(0, 0, false);
        }
        tell(x, costs);
        return x;
    }

    static void tell(RaceTuning x, int[][] costs) {
        for (int s = 0; s < costs.length; s++) {
            for (int i = 0; i < costs[s].length; i++) {
                due("cost(" + s + ", " + i + ", " + costs[s][i] + ")", x.cost(s, i, costs[s][i]), i + 1);
            }
        }
    }

    static void runAll(RaceTuning x, int runs) {
        for (int k = 1; k <= runs; k++) {
            due("run() number " + k, x.run(), k);
        }
    }

    static String odds(RaceTuning x, int a, int b) {
        return x.odds(a, b, 0) + "/" + x.odds(a, b, 1);
    }

    static void dueText(String call, String got, String want) {
        asked++;
        if (!got.equals(want)) {
            wrong++;
            System.out.println(call + " answered " + got + ", due is " + want);
        }
    }
}
