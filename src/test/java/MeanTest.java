/** Promise 18: mean. */
public final class MeanTest {
    private MeanTest() {
    }

    public static void main(String[] args) {
        lowestTerms();
        firstRuns();
        refusals();
        runsOfARoundThatIsNotDone();
        ofOneThatDroppedOut();
        Check.end();
    }

    private static void dueMean(RaceTuning x, int s, int n, long upper, long lower) {
        Check.due("mean(" + s + ", " + n + ", 0)", Check.meanOf(x, s, n, 0), upper);
        Check.due("mean(" + s + ", " + n + ", 1)", Check.meanOf(x, s, n, 1), lower);
    }

    private static void lowestTerms() {
        RaceTuning x = Check.raced(new int[][] {{4, 4, 4}, {0, 0, 0}, {-1, -1, -1}});
        x.race(0, 24, 1, 2, 1, 1000, 1);
        Check.runAll(x, 9);
        dueMean(x, 0, 3, 4, 1);
        dueMean(x, 1, 3, 0, 1);
        dueMean(x, 2, 3, 2000000, 1);
    }

    /** Seed 1 puts the four instances in the order 3, 1, 0, 2. */
    private static void firstRuns() {
        RaceTuning x = Check.raced(new int[][] {{40, 3, 7, 8}, {5, 5, 5, 5}});
        x.race(0, 24, 1, 2, 1, 1000, 1);
        Check.runAll(x, 8);
        dueMean(x, 0, 1, 8, 1);
        dueMean(x, 0, 2, 11, 2);
        dueMean(x, 0, 3, 17, 1);
        dueMean(x, 0, 4, 29, 2);
        dueMean(x, 1, 4, 5, 1);
    }

    private static void refusals() {
        RaceTuning x = Check.raced(new int[][] {{7, 8}, {9, 9}});
        Check.due("mean without a race", Check.meanOf(x, 0, 0, 0), RaceTuning.NOTHING);
        x.race(0, 24, 1, 2, 1, 1000, 1);
        Check.due("mean of no runs", Check.meanOf(x, 0, 0, 0), Check.THROWN);
        Check.due("mean of no runs, lower", Check.meanOf(x, 1, 0, 1), Check.THROWN);
        Check.due("mean of a run that was not", Check.meanOf(x, 0, 1, 0), RaceTuning.NOTHING);
        Check.runAll(x, 4);
        Check.due("mean of no runs behind runs", Check.meanOf(x, 0, 0, 0), Check.THROWN);
        int[] none = {-1, 2, Integer.MIN_VALUE, Integer.MAX_VALUE};
        for (int n : none) {
            Check.due("mean(" + n + ", 0, 0)", Check.meanOf(x, n, 0, 0), RaceTuning.NOTHING);
            Check.due("mean(0, 0, " + n + ")", Check.meanOf(x, 0, 0, n), RaceTuning.NOTHING);
            Check.due("mean(0, 1, " + n + ")", Check.meanOf(x, 0, 1, n), RaceTuning.NOTHING);
        }
        int[] outside = {-1, 3, Integer.MIN_VALUE, Integer.MAX_VALUE};
        for (int n : outside) {
            Check.due("mean(0, " + n + ", 0)", Check.meanOf(x, 0, n, 0), RaceTuning.NOTHING);
        }
    }

    private static void runsOfARoundThatIsNotDone() {
        RaceTuning x = Check.raced(new int[][] {{7, 7}, {9, 9}});
        x.race(0, 24, 1, 2, 1, 1000, 1);
        Check.runAll(x, 1);
        dueMean(x, 0, 1, 7, 1);
        dueMean(x, 1, 1, RaceTuning.NOTHING, RaceTuning.NOTHING);
        Check.due("run", x.run(), 2);
        dueMean(x, 1, 1, 9, 1);
        dueMean(x, 0, 2, RaceTuning.NOTHING, RaceTuning.NOTHING);
    }

    private static void ofOneThatDroppedOut() {
        RaceTuning x = Check.raced(new int[][] {{1, 1}, {1, 1}, {5, 5}});
        x.race(0, 1, 1, 2, 1, 1000, 1);
        Check.runAll(x, 5);
        Check.due("2 dropped out", x.dropped(2), 1);
        dueMean(x, 2, 1, 5, 1);
        dueMean(x, 2, 2, RaceTuning.NOTHING, RaceTuning.NOTHING);
        dueMean(x, 0, 2, 1, 1);
    }
}
