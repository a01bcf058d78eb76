/** Promises 7 and 8: what a race wants, its runs and rounds, and when it is over. */
public final class RunTest {
    private static final int LEAST = Integer.MIN_VALUE;
    private static final int MOST = Integer.MAX_VALUE;
    private static final int[][] THREE_BY_FOUR = {{1, 1, 1, 1}, {2, 2, 2, 2}, {3, 3, 3, 3}};

    private RunTest() {
    }

    public static void main(String[] args) throws Exception {
        Check.all(RunTest.class);
    }

    private static void dueOver(RaceTuning x, int why) {
        Check.due("why it is over", x.raceOf(0), why);
        int runs = x.raceOf(2);
        Check.due("wants(0) when it is over", x.wants(0), -3);
        Check.due("wants(1) when it is over", x.wants(1), -3);
        Check.due("run when it is over", x.run(), -3);
        Check.due("runs when it is over", x.raceOf(2), runs);
    }

    private static void dueNotOver(RaceTuning x, int setting) {
        Check.due("it is not over", x.raceOf(0), 0);
        Check.due("the setting that it wants", x.wants(0), setting);
    }

    @Says(promise = 7, value = "What the next RUN is of: what = 0 the SETTING, 1 the INSTANCE.")
    static void wantsSettingAndInstance() {
        RaceTuning x = Check.raced(new int[2][3]);
        x.race(0, 24, 1, 2, 1, 1000, 42);
        int[] order = {2, 1, 0};
        for (int r = 0; r < 3; r++) {
            for (int s = 0; s < 2; s++) {
                Check.due("setting, round " + r, x.wants(0), s);
                Check.due("instance, round " + r, x.wants(1), order[r]);
                Check.due("the same again", x.wants(0), s);
                x.run();
            }
        }
    }

    @Says(promise = 7, value = "What the next RUN is of:")
    static void wantsACostThatIsNotTold() {
        RaceTuning x = Check.withSettings(2);
        x.instance(0, 0, false);
        x.race(0, 1, 1, 2, 1, 1000, 0);
        Check.due("the setting", x.wants(0), 0);
        Check.due("the instance", x.wants(1), 0);
    }

    @Says(promise = 7, value = "-2;")
    static void wantsOutsideItsBounds() {
        RaceTuning x = Check.raced(new int[2][1]);
        x.race(0, 1, 1, 2, 1, 1000, 0);
        for (int what : new int[] {LEAST, -1, 2, MOST}) {
            Check.due("wants(" + what + ")", x.wants(what), -2);
        }
    }

    @Says(promise = 7, value = "-3 no RACE, or it is OVER.")
    static void wantsWithoutRace() {
        RaceTuning x = Check.raced(new int[2][1]);
        Check.due("the setting", x.wants(0), -3);
        Check.due("the instance", x.wants(1), -3);
    }

    @Says(promise = 7, value = "-3 no RACE, or it is OVER.")
    static void wantsWhenItIsOver() {
        RaceTuning x = Check.raced(new int[2][1]);
        x.race(0, 24, 1, 2, 1, 1000, 0);
        Check.due("behind no run", x.wants(0), 0);
        x.run();
        Check.due("behind one run", x.wants(0), 1);
        x.run();
        Check.due("the setting", x.wants(0), -3);
        Check.due("the instance", x.wants(1), -3);
    }

    @Says(promise = 8, value = "The next RUN: how many were done.")
    static void runsAreCounted() {
        RaceTuning x = Check.raced(new int[12][24]);
        x.race(0, 24, 1, 1000, 1, 1000, 3);
        Check.runAll(x, 70);
        Check.due("rounds", x.raceOf(1), 5);
        Check.due("runs", x.raceOf(2), 70);
        Check.due("the next one", x.wants(0), 10);
    }

    @Says(promise = 8, value = "-3 no RACE,")
    static void runWithoutRace() {
        RaceTuning x = Check.raced(new int[2][1]);
        Check.due("run", x.run(), -3);
        Check.due("it began no race", x.left(-1), -1);
    }

    @Says(promise = 8, value = "it is OVER,")
    static void runWhenItIsOver() {
        RaceTuning x = Check.raced(new int[2][1]);
        x.race(0, 24, 1, 2, 1, 1000, 0);
        Check.runAll(x, 2);
        Check.due("one more", x.run(), -3);
        Check.due("and again", x.run(), -3);
        Check.due("runs", x.raceOf(2), 2);
        Check.due("rounds", x.raceOf(1), 1);
    }

    @Says(promise = 8, value = "or the COST is not told.")
    static void runWithoutCost() {
        RaceTuning x = Check.withSettings(2);
        x.instance(0, 0, false);
        x.race(0, 1, 1, 1, 1, 1000, 0);
        Check.due("no cost at all", x.run(), -3);
        x.cost(1, 0, 4);
        Check.due("another one's cost", x.run(), -3);
        Check.due("it still wants 0", x.wants(0), 0);
        Check.due("no run was done", x.raceOf(2), 0);
        x.cost(0, 0, 4);
        Check.due("with its cost", x.run(), 1);
        Check.due("and the other one", x.run(), 2);
        Check.due("the round is done", x.raceOf(1), 1);
    }

    @Says(promise = 8, value = "or the COST is not told.")
    static void runWithACostOfNothing() {
        RaceTuning x = Check.raced(new int[][] {{0}, {-1}});
        x.race(0, 1, 1, 2, 1, 1000, 0);
        Check.due("a cost of 0 is told", x.run(), 1);
        Check.due("and so is a failed one", x.run(), 2);
    }

    @Says(promise = 0, value = "ROUND r: each SETTING that is left runs on the INSTANCE at place r of ORDER, by numbers;")
    static void thoseLeftRunByNumbers() {
        RaceTuning x = Check.raced(new int[][] {{9, 9}, {1, 1}, {9, 9}, {1, 1}, {1, 1}});
        x.race(0, 1, 1, 2, 1, 1000, 0);
        int[] settings = {0, 1, 2, 3, 4, 1, 3, 4};
        int[] instances = {1, 1, 1, 1, 1, 0, 0, 0};
        for (int k = 0; k < settings.length; k++) {
            Check.due("setting of run " + k, x.wants(0), settings[k]);
            Check.due("instance of run " + k, x.wants(1), instances[k]);
            Check.due("run", x.run(), k + 1);
        }
        dueOver(x, 2);
    }

    @Says(promise = 0, value = "a RUN takes its COST.")
    static void runTakesTheCost() {
        RaceTuning x = Check.raced(new int[][] {{7, 8}, {-1, 0}});
        x.race(0, 24, 1, 2, 1, 1000, 0);
        Check.runAll(x, 4);
        Check.due("the first of 0", x.mean(0, 1, 0), 8);
        Check.due("both of 0", x.mean(0, 2, 0), 15);
        Check.due("the first of 1", x.mean(1, 1, 0), 0);
        Check.due("both of 1", x.mean(1, 2, 0), 1000000);
    }

    @Says(promise = 0, value = "Behind the last RUN of a ROUND, if FIRST ROUNDS at least are done, SETTINGS drop out.")
    static void noOneDropsOutBeforeFirst() {
        for (int first = 1; first <= 4; first++) {
            RaceTuning x = Check.raced(THREE_BY_FOUR);
            x.race(0, first, 1, 1, 1, 1000, 77);
            for (int run = 1; run <= 3 * first; run++) {
                Check.due("left ahead of run " + run, x.left(-1), 3);
                x.run();
            }
            Check.due("left behind round " + first, x.left(-1), 1);
            Check.due("1 dropped out", x.dropped(1), first);
            Check.due("2 dropped out", x.dropped(2), first);
        }
    }

    @Says(promise = 0, value = "if FIRST ROUNDS at least are done,")
    static void firstBeyondTheInstances() {
        RaceTuning x = Check.raced(THREE_BY_FOUR);
        x.race(0, 5, 1, 1, 1, 1000, 77);
        Check.runAll(x, 12);
        Check.due("no one dropped out", x.left(-1), 3);
        dueOver(x, 2);
    }

    @Says(promise = 0, value = "if FIRST ROUNDS at least are done,")
    static void firstOfTwentyFour() {
        RaceTuning x = Check.raced(new int[][] {new int[24], ones(24)});
        x.race(0, 24, 1, 1, 1, 1000, 77);
        Check.runAll(x, 47);
        Check.due("no one dropped out", x.left(-1), 2);
        Check.due("the last run", x.run(), 48);
        Check.due("1 dropped out", x.dropped(1), 24);
        dueOver(x, 1);
    }

    private static int[] ones(int count) {
        int[] row = new int[count];
        java.util.Arrays.fill(row, 1);
        return row;
    }

    /** At 1/4 the first round does not suffice, but the second, behind FIRST, does. */
    @Says(promise = 0, value = "if FIRST ROUNDS at least are done, SETTINGS drop out.")
    static void theyDropOutBehindLaterRoundsToo() {
        RaceTuning x = Check.raced(THREE_BY_FOUR);
        x.race(0, 1, 1, 4, 1, 1000, 77);
        Check.runAll(x, 3);
        Check.due("behind round 1", x.left(-1), 3);
        Check.due("run", x.run(), 4);
        Check.due("run", x.run(), 5);
        Check.due("in the midst of round 2", x.left(-1), 3);
        Check.due("run", x.run(), 6);
        Check.due("behind round 2", x.left(-1), 1);
        Check.due("1 dropped out", x.dropped(1), 2);
    }

    @Says(promise = 0, value = "It is OVER: when one is left,")
    static void overWithOne() {
        RaceTuning x = Check.raced(new int[1][3]);
        x.race(0, 1, 1, 2, 1, 1000, 0);
        dueOver(x, 1);
        RaceTuning y = Check.raced(new int[][] {{1, 1}, {2, 2}});
        y.race(0, 1, 1, 2, 1, 1000, 0);
        Check.runAll(y, 1);
        dueNotOver(y, 1);
        Check.due("run", y.run(), 2);
        dueOver(y, 1);
    }

    @Says(promise = 0, value = "or no more than LEAST are (1);")
    static void overWithLeastAtTheStart() {
        RaceTuning x = Check.raced(THREE_BY_FOUR);
        x.race(0, 1, 1, 2, 3, 1000, 0);
        dueOver(x, 1);
        x.race(0, 1, 1, 2, 4, 1000, 0);
        dueOver(x, 1);
        x.race(0, 1, 1, 2, 12, 1000, 0);
        dueOver(x, 1);
        x.race(0, 1, 1, 2, 2, 1000, 0);
        dueNotOver(x, 0);
    }

    @Says(promise = 0, value = "or no more than LEAST are (1);")
    static void overWithLeastBehindARound() {
        RaceTuning x = Check.raced(THREE_BY_FOUR);
        x.race(0, 1, 1, 2, 2, 1000, 0);
        Check.runAll(x, 2);
        dueNotOver(x, 2);
        Check.due("run", x.run(), 3);
        Check.due("left", x.left(-1), 2);
        dueOver(x, 1);
    }

    @Says(promise = 0, value = "when there is no INSTANCE more (2);")
    static void overWithoutAnyInstance() {
        RaceTuning x = Check.withSettings(2);
        x.race(0, 1, 1, 2, 1, 1000, 0);
        dueOver(x, 2);
        x.instance(0, 0, true);
        x.race(0, 1, 1, 2, 1, 1000, 0);
        dueOver(x, 2);
        x.instance(0, 0, false);
        dueOver(x, 2);
        x.race(0, 1, 1, 2, 1, 1000, 0);
        dueNotOver(x, 0);
    }

    @Says(promise = 0, value = "when there is no INSTANCE more (2);")
    static void overBehindTheLastInstance() {
        RaceTuning x = Check.raced(new int[2][2]);
        x.race(0, 1, 1, 2, 1, 1000, 0);
        Check.runAll(x, 3);
        dueNotOver(x, 1);
        Check.due("run", x.run(), 4);
        Check.due("rounds", x.raceOf(1), 2);
        dueOver(x, 2);
    }

    @Says(promise = 0, value = "when there is no INSTANCE more (2);")
    static void overBehindTheTwentyFourth() {
        RaceTuning x = Check.raced(new int[2][24]);
        x.race(1, 1, 1, 2, 1, 1000, 0);
        Check.runAll(x, 47);
        dueNotOver(x, 1);
        Check.due("run", x.run(), 48);
        Check.due("rounds", x.raceOf(1), 24);
        dueOver(x, 2);
    }

    @Says(promise = 0, value = "when the BUDGET has fewer RUNS left than SETTINGS are (3);")
    static void overWithoutBudgetAtTheStart() {
        RaceTuning x = Check.raced(new int[3][5]);
        for (int budget = 0; budget <= 2; budget++) {
            x.race(0, 1, 1, 2, 1, budget, 0);
            dueOver(x, 3);
        }
        x.race(0, 1, 1, 2, 1, 3, 0);
        dueNotOver(x, 0);
    }

    @Says(promise = 0, value = "when the BUDGET has fewer RUNS left than SETTINGS are (3);")
    static void overWithoutBudgetBehindARound() {
        RaceTuning x = Check.raced(new int[3][5]);
        int[] budgets = {3, 4, 5, 6, 8, 9, 14};
        int[] rounds = {1, 1, 1, 2, 2, 3, 4};
        for (int b = 0; b < budgets.length; b++) {
            x.race(0, 1, 1, 2, 1, budgets[b], 0);
            Check.runAll(x, rounds[b] * 3);
            Check.due("rounds with budget " + budgets[b], x.raceOf(1), rounds[b]);
            dueOver(x, 3);
        }
    }

    @Says(promise = 0, value = "when the BUDGET has fewer RUNS left than SETTINGS are (3);")
    static void budgetIsHeldAgainstThoseLeft() {
        RaceTuning x = Check.raced(new int[][] {{1, 1, 1}, {1, 1, 1}, {2, 2, 2}});
        x.race(0, 1, 1, 2, 1, 5, 0);
        Check.runAll(x, 3);
        Check.due("two are left", x.left(-1), 2);
        dueNotOver(x, 0);
        Check.due("run", x.run(), 4);
        Check.due("run", x.run(), 5);
        dueOver(x, 3);
        x.race(0, 1, 1, 2, 1, 4, 0);
        Check.runAll(x, 3);
        dueOver(x, 3);
    }

    @Says(promise = 0, value = "the first of these, looked at when it begins and behind each ROUND.")
    static void theFirstReasonAtTheStart() {
        RaceTuning x = Check.withSettings(2);
        x.race(0, 1, 1, 2, 2, 0, 0);
        dueOver(x, 1);
        x.race(0, 1, 1, 2, 2, 1000, 0);
        dueOver(x, 1);
        x.race(0, 1, 1, 2, 1, 0, 0);
        dueOver(x, 2);
        RaceTuning y = Check.raced(new int[2][1]);
        y.race(0, 1, 1, 2, 2, 0, 0);
        dueOver(y, 1);
        y.race(0, 1, 1, 2, 1, 0, 0);
        dueOver(y, 3);
    }

    @Says(promise = 0, value = "the first of these, looked at when it begins and behind each ROUND.")
    static void theFirstReasonBehindARound() {
        RaceTuning x = Check.raced(new int[2][1]);
        x.race(0, 1, 1, 2, 1, 2, 0);
        Check.runAll(x, 2);
        dueOver(x, 2);
        RaceTuning y = Check.raced(new int[][] {{1}, {2}});
        y.race(0, 1, 1, 2, 1, 2, 0);
        Check.runAll(y, 2);
        dueOver(y, 1);
        RaceTuning z = Check.raced(new int[][] {{1, 1}, {2, 2}});
        z.race(0, 1, 1, 2, 1, 2, 0);
        Check.runAll(z, 2);
        dueOver(z, 1);
    }

    /** Behind the first run the budget has 1 run left for 2 settings, but only rounds are looked at. */
    @Says(promise = 0, value = "looked at when it begins and behind each ROUND.")
    static void notLookedAtInTheMidstOfARound() {
        RaceTuning x = Check.raced(new int[2][2]);
        x.race(0, 1, 1, 2, 1, 2, 0);
        Check.runAll(x, 1);
        dueNotOver(x, 1);
        Check.due("run", x.run(), 2);
        dueOver(x, 3);
    }
}
