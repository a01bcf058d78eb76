/** Promise 13: odds. */
public final class OddsTest {
    private static final int[] NONE = {Integer.MIN_VALUE, -1, 2, 12, Integer.MAX_VALUE};

    private OddsTest() {
    }

    public static void main(String[] args) throws Exception {
        Check.all(OddsTest.class);
    }

    /** A race over all instances in which no one drops out. */
    private static RaceTuning full(int kind, int[] a, int[] b) {
        RaceTuning x = Check.raced(new int[][] {a, b});
        x.race(kind, 24, 1, 1000, 1, 1000, 5);
        Check.runAll(x, 2 * a.length);
        Check.due("all rounds are done", x.raceOf(1), a.length);
        return x;
    }

    private static void dueOdds(RaceTuning x, String aOverB, String bOverA) {
        Check.dueText("odds of 0 over 1", Check.odds(x, 0, 1), aOverB);
        Check.dueText("odds of 1 over 0", Check.odds(x, 1, 0), bOverA);
    }

    private static int[] rising(int count) {
        int[] row = new int[count];
        for (int i = 0; i < count; i++) {
            row[i] = i + 1;
        }
        return row;
    }

    @Says(promise = 13, value = "ODDS of a over b by the RACE's KIND: side 0 the upper number, 1 the lower.")
    static void oddsByTheRacesKind() {
        int[] a = {10, 10, 10, 10};
        int[] b = {11, 12, 13, 6};
        RaceTuning x = full(0, a, b);
        Check.due("signs, upper", x.odds(0, 1, 0), 5);
        Check.due("signs, lower", x.odds(0, 1, 1), 16);
        x.race(1, 24, 1, 1000, 1, 1000, 5);
        Check.runAll(x, 8);
        Check.due("differences, upper", x.odds(0, 1, 0), 7);
        Check.due("differences, lower", x.odds(0, 1, 1), 16);
    }

    @Says(promise = 13, value = "NOTHING: no RACE,")
    static void oddsWithoutRace() {
        RaceTuning x = Check.raced(new int[2][2]);
        Check.due("upper", x.odds(0, 1, 0), RaceTuning.NOTHING);
        Check.due("lower", x.odds(0, 1, 1), RaceTuning.NOTHING);
    }

    @Says(promise = 13, value = "no SETTINGS of it,")
    static void oddsOfNoSettings() {
        RaceTuning x = full(0, new int[] {1}, new int[] {2});
        for (int n : NONE) {
            Check.due("odds(" + n + ", 0, 0)", x.odds(n, 0, 0), RaceTuning.NOTHING);
            Check.due("odds(0, " + n + ", 1)", x.odds(0, n, 1), RaceTuning.NOTHING);
            Check.due("odds(" + n + ", " + n + ", 0)", x.odds(n, n, 0), RaceTuning.NOTHING);
        }
    }

    @Says(promise = 13, value = "no SETTINGS of it,")
    static void oddsOfASettingThatCameLater() {
        RaceTuning x = full(0, new int[] {1}, new int[] {2});
        x.setting();
        x.cost(2, 0, 0);
        Check.due("of it", x.odds(2, 0, 0), RaceTuning.NOTHING);
        Check.due("over it", x.odds(0, 2, 0), RaceTuning.NOTHING);
    }

    @Says(promise = 13, value = "side.")
    static void oddsOfNoSide() {
        RaceTuning x = full(0, new int[] {1}, new int[] {2});
        for (int n : NONE) {
            Check.due("odds(0, 1, " + n + ")", x.odds(0, 1, n), RaceTuning.NOTHING);
        }
    }

    @Says(promise = 0, value = "(in lowest terms; 1 over 1, if none counts):")
    static void oddsBeforeARound() {
        for (int kind = 0; kind < 2; kind++) {
            RaceTuning x = Check.raced(new int[][] {{1}, {2}});
            x.race(kind, 24, 1, 2, 1, 1000, 0);
            dueOdds(x, "1/1", "1/1");
            x.run();
            dueOdds(x, "1/1", "1/1");
            x.run();
            dueOdds(x, "1/2", "1/1");
        }
    }

    @Says(promise = 0, value = "1 over 1, if none counts):")
    static void oddsWithLikeCostsAlone() {
        for (int kind = 0; kind < 2; kind++) {
            dueOdds(full(kind, new int[] {5, 0, -1}, new int[] {5, 0, -1}), "1/1", "1/1");
            dueOdds(full(kind, new int[24], new int[24]), "1/1", "1/1");
        }
    }

    @Says(promise = 0, value = "1 over 1, if none counts):")
    static void oddsOverItself() {
        RaceTuning x = full(1, new int[] {1, 5}, new int[] {2, 3});
        Check.dueText("0 over 0", Check.odds(x, 0, 0), "1/1");
        Check.dueText("1 over 1", Check.odds(x, 1, 1), "1/1");
    }

    @Says(promise = 0, value = "1 over 1, if none counts):")
    static void oddsInARaceThatNeverRan() {
        RaceTuning x = Check.withSettings(2);
        x.race(1, 24, 1, 2, 1, 0, 0);
        dueOdds(x, "1/1", "1/1");
    }

    @Says(promise = 0, value = "(in lowest terms;")
    static void oddsInLowestTerms() {
        dueOdds(full(0, new int[] {1, 1, 1}, new int[] {2, 2, 0}), "1/2", "7/8");
        dueOdds(full(0, new int[] {3, 3}, new int[] {1, 2}), "1/1", "1/4");
        dueOdds(full(1, new int[] {10, 10, 10, 10}, new int[] {9, 12, 13, 14}), "1/8", "15/16");
    }

    @Says(promise = 0, value = "ODDS of a over b, by the ROUNDS done in which both ran")
    static void oddsOfARoundThatIsNotDone() {
        RaceTuning x = Check.raced(new int[][] {{1, 1}, {2, 2}, {3, 3}});
        x.race(0, 24, 1, 2, 1, 1000, 0);
        Check.runAll(x, 2);
        dueOdds(x, "1/1", "1/1");
        Check.due("run", x.run(), 3);
        dueOdds(x, "1/2", "1/1");
        Check.due("run", x.run(), 4);
        Check.due("run", x.run(), 5);
        dueOdds(x, "1/2", "1/1");
        Check.due("run", x.run(), 6);
        dueOdds(x, "1/4", "1/1");
    }

    /** Seed 0 puts the three instances in the order 1, 2, 0; settings 2 and 3 run on the first of them alone. */
    @Says(promise = 0, value = "by the ROUNDS done in which both ran")
    static void oddsOfOneThatDroppedOut() {
        RaceTuning x = Check.raced(new int[][] {{1, 1, 1}, {2, 1, 1}, {9, 9, 9}, {9, 9, 9}});
        x.race(0, 1, 1, 2, 1, 1000, 0);
        Check.runAll(x, 4);
        Check.due("2 dropped out", x.dropped(2), 1);
        for (int run = 5; run <= 8; run++) {
            Check.due("run", x.run(), run);
            Check.dueText("0 over 2", Check.odds(x, 0, 2), "1/2");
            Check.dueText("2 over 0", Check.odds(x, 2, 0), "1/1");
            Check.dueText("2 over 3", Check.odds(x, 2, 3), "1/1");
        }
        Check.due("1 dropped out in the end", x.dropped(1), 3);
        Check.dueText("0 over 1 by all three rounds", Check.odds(x, 0, 1), "1/2");
    }

    @Says(promise = 0, value = "KIND 0: of the n ROUNDS with unlike COSTS, a's is less in w: "
        + "the rows of n signs with at least w of them up, of all 2^n.")
    static void signs() {
        dueOdds(full(0, new int[] {1, 1, 1, 1, 7, 7}, new int[] {2, 900, 3, 0, 7, 7}), "5/16", "15/16");
        dueOdds(full(0, new int[] {1, 1, 1, 1}, new int[] {2, 2, 0, 0}), "11/16", "11/16");
    }

    @Says(promise = 0, value = "the rows of n signs with at least w of them up, of all 2^n.")
    static void signsOfOneRound() {
        dueOdds(full(0, new int[] {1}, new int[] {2}), "1/2", "1/1");
    }

    @Says(promise = 0, value = "the rows of n signs with at least w of them up, of all 2^n.")
    static void signsOfTheLongestRace() {
        int[] a = new int[24];
        int[] b = rising(24);
        dueOdds(full(0, a, b), "1/16777216", "1/1");
        a[0] = 2;
        dueOdds(full(0, a, b), "25/16777216", "16777215/16777216");
    }

    /** Differences 1, 2, 3, 4 weigh 2, 4, 6, 8. */
    @Says(promise = 0, value = {"KIND 1: of these n, by the differences of COSTS without sign: each has 2 for each "
        + "other one that is less, 1 for each that is the same, and 2;", "T is the sum of those in which a's COST "
        + "is less: the rows of n signs for which the sum of those with sign up is T or more, of all 2^n."})
    static void differences() {
        dueOdds(full(1, new int[] {10, 10, 10, 10}, new int[] {11, 12, 13, 6}), "7/16", "11/16");
        dueOdds(full(1, new int[] {10, 10, 10, 10}, new int[] {9, 12, 13, 14}), "1/8", "15/16");
    }

    /** Differences 3, 3, 7, 7 weigh 3, 3, 7, 7: a's are a 3 and a 7, and 10 or more have 10 rows of 16. */
    @Says(promise = 0, value = "1 for each that is the same, and 2;")
    static void likeDifferences() {
        dueOdds(full(1, new int[] {10, 10, 10, 10, 10}, new int[] {13, 7, 17, 3, 10}), "5/8", "5/8");
        dueOdds(full(1, new int[] {4, 4, 4}, new int[] {5, 5, 5}), "1/8", "1/1");
        dueOdds(full(1, new int[] {4, 4, 4}, new int[] {5, 5, 2}), "5/8", "5/8");
        dueOdds(full(1, new int[] {4, 4, 4, 4}, new int[] {5, 5, 5, 0}), "1/2", "3/4");
    }

    @Says(promise = 0, value = "KIND 1: of these n,")
    static void likeCostsHaveNoDifference() {
        int[] a = {10, 3, 10, 10, 3, 10};
        int[] b = {11, 3, 12, 13, 3, 6};
        dueOdds(full(1, a, b), "7/16", "11/16");
    }

    @Says(promise = 0, value = "the rows of n signs for which the sum of those with sign up is T or more, of all 2^n.")
    static void differencesOfTheLongestRace() {
        int[] a = new int[24];
        int[] b = rising(24);
        dueOdds(full(1, a, b), "1/16777216", "1/1");
        a[0] = 2;
        dueOdds(full(1, a, b), "1/8388608", "16777215/16777216");
    }

    @Says(promise = 0, value = "the rows of n signs for which the sum of those with sign up is T or more, of all 2^n.")
    static void likeDifferencesOfTheLongestRace() {
        int[] a = new int[24];
        int[] b = new int[24];
        java.util.Arrays.fill(b, 1);
        dueOdds(full(1, a, b), "1/16777216", "1/1");
        a[0] = 2;
        dueOdds(full(1, a, b), "25/16777216", "16777215/16777216");
    }

    @Says(promise = 0, value = "FAILED counts as 2000000.")
    static void failedMakesADifference() {
        dueOdds(full(1, new int[] {0, 1000000, -1}, new int[] {999999, 0, -1}), "3/4", "1/2");
        dueOdds(full(1, new int[] {0, 1000000}, new int[] {-1, 0}), "1/2", "3/4");
        dueOdds(full(1, new int[] {0, 1000000}, new int[] {1000000, -1}), "1/4", "1/1");
    }
}
