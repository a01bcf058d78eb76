/** Promise 18: mean. */
public final class MeanTest {
    private static final int LEAST = Integer.MIN_VALUE;
    private static final int MOST = Integer.MAX_VALUE;

    private MeanTest() {
    }

    public static void main(String[] args) throws Exception {
        Check.all(MeanTest.class);
    }

    private static RaceTuning run(int[][] costs, int seed) {
        RaceTuning x = Check.raced(costs);
        x.race(0, 24, 1, 2, 1, 1000, seed);
        Check.runAll(x, costs.length * costs[0].length);
        return x;
    }

    private static void dueMean(RaceTuning x, int s, int n, long upper, long lower) {
        Check.due("mean(" + s + ", " + n + ", 0)", Check.meanOf(x, s, n, 0), upper);
        Check.due("mean(" + s + ", " + n + ", 1)", Check.meanOf(x, s, n, 1), lower);
    }

    private static void dueNothing(RaceTuning x, int s, int n) {
        dueMean(x, s, n, RaceTuning.NOTHING, RaceTuning.NOTHING);
    }

    /** Seed 1 puts the four instances in the order 3, 1, 0, 2. */
    @Says(promise = 18, value = "The mean of the COSTS that a SETTING of the RACE had in its first n RUNS:")
    static void meanOfTheFirstRuns() {
        RaceTuning x = run(new int[][] {{40, 3, 7, 8}, {5, 5, 5, 5}}, 1);
        dueMean(x, 0, 1, 8, 1);
        dueMean(x, 0, 2, 11, 2);
        dueMean(x, 0, 3, 17, 1);
        dueMean(x, 0, 4, 29, 2);
        dueMean(x, 1, 4, 5, 1);
    }

    @Says(promise = 18, value = "a fraction in lowest terms (side 0, 1).")
    static void meanInLowestTerms() {
        RaceTuning x = run(new int[][] {{4, 4, 4, 4, 4, 4}, {1, 1, 1, 1, 1, 4}, {1, 1, 1, 0, 0, 0}}, 1);
        dueMean(x, 0, 6, 4, 1);
        dueMean(x, 1, 6, 3, 2);
        dueMean(x, 2, 6, 1, 2);
    }

    @Says(promise = 18, value = "a fraction in lowest terms (side 0, 1).")
    static void meanOfZeros() {
        RaceTuning x = run(new int[2][24], 1);
        dueMean(x, 0, 1, 0, 1);
        dueMean(x, 0, 24, 0, 1);
    }

    @Says(promise = 0, value = "FAILED counts as 2000000.")
    static void meanOfFailedOnes() {
        RaceTuning x = run(new int[][] {{-1, -1, -1}, {-1, 0, 0}}, 0);
        dueMean(x, 0, 3, 2000000, 1);
        dueMean(x, 1, 3, 2000000, 3);
    }

    @Says(promise = 18, value = "The mean of the COSTS that a SETTING of the RACE had in its first n RUNS:")
    static void meanOfTheGreatestSum() {
        int[] failed = new int[24];
        java.util.Arrays.fill(failed, -1);
        int[] nearly = failed.clone();
        nearly[0] = 1000000;
        int[] odd = failed.clone();
        odd[0] = 999999;
        RaceTuning x = run(new int[][] {failed, nearly, odd}, 7);
        dueMean(x, 0, 24, 2000000, 1);
        dueMean(x, 1, 24, 5875000, 3);
        dueMean(x, 2, 24, 46999999, 24);
    }

    @Says(promise = 18, value = "ArithmeticException: n is 0.")
    static void noRunsThrow() {
        RaceTuning x = Check.raced(new int[][] {{7, 8}, {9, 9}});
        x.race(0, 24, 1, 2, 1, 1000, 1);
        dueMean(x, 0, 0, Check.THROWN, Check.THROWN);
        dueMean(x, 1, 0, Check.THROWN, Check.THROWN);
        Check.runAll(x, 4);
        dueMean(x, 0, 0, Check.THROWN, Check.THROWN);
        dueMean(x, 1, 0, Check.THROWN, Check.THROWN);
    }

    @Says(promise = 18, value = "ArithmeticException: n is 0.")
    static void noRunsThrowForOneThatDroppedOut() {
        RaceTuning x = Check.raced(new int[][] {{1}, {2}});
        x.race(0, 1, 1, 2, 1, 1000, 1);
        Check.runAll(x, 2);
        Check.due("1 dropped out", x.dropped(1), 1);
        dueMean(x, 1, 0, Check.THROWN, Check.THROWN);
    }

    @Says(promise = 18, value = "NOTHING (first): no RACE,")
    static void nothingWithoutRace() {
        RaceTuning x = Check.raced(new int[][] {{7}});
        dueNothing(x, 0, 1);
        dueNothing(x, 0, 0);
    }

    @Says(promise = 18, value = "no SETTING of it,")
    static void nothingOfNoSetting() {
        RaceTuning x = run(new int[2][2], 0);
        x.setting();
        for (int none : new int[] {LEAST, -1, 2, 3, 12, MOST}) {
            dueNothing(x, none, 1);
            dueNothing(x, none, 0);
        }
    }

    @Says(promise = 18, value = "n below 0")
    static void nothingBelowZero() {
        RaceTuning x = run(new int[2][2], 0);
        for (int n : new int[] {-1, -2, LEAST}) {
            dueNothing(x, 0, n);
        }
    }

    @Says(promise = 18, value = "or above its RUNS,")
    static void nothingAboveItsRuns() {
        RaceTuning x = run(new int[][] {{6, 6}, {6, 6}}, 0);
        dueMean(x, 0, 2, 6, 1);
        for (int n : new int[] {3, 4, 24, 25, MOST}) {
            dueNothing(x, 0, n);
        }
    }

    @Says(promise = 18, value = "or above its RUNS,")
    static void nothingBeforeItRan() {
        RaceTuning x = Check.raced(new int[][] {{7, 7}, {9, 9}});
        x.race(0, 24, 1, 2, 1, 1000, 1);
        dueNothing(x, 0, 1);
        Check.runAll(x, 1);
        dueMean(x, 0, 1, 7, 1);
        dueNothing(x, 1, 1);
        Check.due("run", x.run(), 2);
        dueMean(x, 1, 1, 9, 1);
        dueNothing(x, 0, 2);
    }

    @Says(promise = 18, value = "or above its RUNS,")
    static void nothingBehindDroppingOut() {
        RaceTuning x = Check.raced(new int[][] {{1, 1}, {1, 1}, {5, 5}});
        x.race(0, 1, 1, 2, 1, 1000, 1);
        Check.runAll(x, 5);
        Check.due("2 dropped out", x.dropped(2), 1);
        dueMean(x, 2, 1, 5, 1);
        dueNothing(x, 2, 2);
        dueMean(x, 0, 2, 1, 1);
    }

    @Says(promise = 18, value = "side.")
    static void nothingOfNoSide() {
        RaceTuning x = run(new int[2][2], 0);
        for (int side : new int[] {LEAST, -1, 2, MOST}) {
            Check.due("mean(0, 1, " + side + ")", Check.meanOf(x, 0, 1, side), RaceTuning.NOTHING);
            Check.due("mean(0, 0, " + side + ")", Check.meanOf(x, 0, 0, side), RaceTuning.NOTHING);
        }
    }
}
