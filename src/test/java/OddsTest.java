/** Promise 13: odds. */
public final class OddsTest {
    private OddsTest() {
    }

    public static void main(String[] args) {
        refusals();
        signs();
        signedRanks();
        likeDifferences();
        roundsInWhichBothRan();
        theLongestRace();
        failedCountsAsItsCost();
        Check.end();
    }

    /** A race over all instances in which no one drops out. */
    private static RaceTuning full(int kind, int[] a, int[] b) {
        RaceTuning x = Check.raced(new int[][] {a, b});
        x.race(kind, 24, 1, 1000, 1, 1000, 5);
        while (x.raceOf(0) == 0 && x.run() > 0) {
            continue;
        }
        Check.due("all rounds are done", x.raceOf(1), a.length);
        return x;
    }

    private static void refusals() {
        RaceTuning x = full(0, new int[] {1}, new int[] {2});
        int[] none = {-1, 2, 12, Integer.MIN_VALUE, Integer.MAX_VALUE};
        for (int n : none) {
            Check.due("odds(" + n + ", 0, 0)", x.odds(n, 0, 0), RaceTuning.NOTHING);
            Check.due("odds(0, " + n + ", 0)", x.odds(0, n, 0), RaceTuning.NOTHING);
            Check.due("odds(0, 1, " + n + ")", x.odds(0, 1, n), RaceTuning.NOTHING);
        }
        Check.dueText("odds over itself", Check.odds(x, 1, 1), "1/1");
        RaceTuning y = new RaceTuning();
        y.setting();
        Check.due("odds without a race", y.odds(0, 0, 0), RaceTuning.NOTHING);
    }

    private static void signs() {
        RaceTuning x = full(0, new int[] {1, 1, 1, 1, 7, 7}, new int[] {2, 900, 3, 0, 7, 7});
        Check.dueText("3 of 4 at least", Check.odds(x, 0, 1), "5/16");
        Check.dueText("1 of 4 at least", Check.odds(x, 1, 0), "15/16");
        RaceTuning y = full(0, new int[] {1, 1}, new int[] {1, 1});
        Check.dueText("no round counts", Check.odds(y, 0, 1), "1/1");
        RaceTuning z = full(0, new int[] {1, 1, 1}, new int[] {2, 2, 0});
        Check.dueText("2 of 3 at least, in lowest terms", Check.odds(z, 0, 1), "1/2");
        Check.dueText("1 of 3 at least", Check.odds(z, 1, 0), "7/8");
        RaceTuning w = full(0, new int[] {3, 3}, new int[] {1, 2});
        Check.dueText("0 of 2 at least", Check.odds(w, 0, 1), "1/1");
    }

    /** Differences 1, 2, 3, 4 weigh 2, 4, 6, 8. */
    private static void signedRanks() {
        RaceTuning x = full(1, new int[] {10, 10, 10, 10}, new int[] {11, 12, 13, 6});
        Check.dueText("12 of 20", Check.odds(x, 0, 1), "7/16");
        Check.dueText("8 of 20", Check.odds(x, 1, 0), "11/16");
        RaceTuning y = full(1, new int[] {10, 10, 10, 10}, new int[] {9, 12, 13, 14});
        Check.dueText("18 of 20", Check.odds(y, 0, 1), "1/8");
        Check.dueText("2 of 20", Check.odds(y, 1, 0), "15/16");
        RaceTuning z = full(1, new int[] {5}, new int[] {5});
        Check.dueText("no round counts", Check.odds(z, 0, 1), "1/1");
    }

    /** Differences 3, 3, 7, 7 weigh 3, 3, 7, 7: a's are a 3 and a 7, and 10 or more have 10 rows of 16. */
    private static void likeDifferences() {
        RaceTuning x = full(1, new int[] {10, 10, 10, 10, 10}, new int[] {13, 7, 17, 3, 10});
        Check.dueText("10 of 20", Check.odds(x, 0, 1), "5/8");
        Check.dueText("10 of 20 the other way", Check.odds(x, 1, 0), "5/8");
        RaceTuning y = full(1, new int[] {4, 4, 4}, new int[] {5, 5, 5});
        Check.dueText("all the same", Check.odds(y, 0, 1), "1/8");
        RaceTuning z = full(1, new int[] {4, 4, 4}, new int[] {5, 5, 2});
        Check.dueText("3 and 3 against 6", Check.odds(z, 0, 1), "5/8");
        Check.dueText("6 against 3 and 3", Check.odds(z, 1, 0), "5/8");
        RaceTuning w = full(1, new int[] {4, 4, 4, 4}, new int[] {5, 5, 5, 0});
        Check.dueText("three times 4 against 8", Check.odds(w, 0, 1), "1/2");
        Check.dueText("8 against three times 4", Check.odds(w, 1, 0), "3/4");
    }

    /** Seed 0 puts the three instances in the order 1, 2, 0. */
    private static void roundsInWhichBothRan() {
        RaceTuning x = Check.raced(new int[][] {{1, 1, 1}, {2, 1, 1}, {9, 9, 9}, {9, 9, 9}});
        x.race(0, 1, 1, 2, 1, 1000, 0);
        Check.runAll(x, 4);
        Check.due("2 dropped out", x.dropped(2), 1);
        Check.due("1 is left", x.dropped(1), -3);
        Check.dueText("0 over 2", Check.odds(x, 0, 2), "1/2");
        Check.dueText("2 over 3", Check.odds(x, 2, 3), "1/1");
        for (int run = 5; run <= 8; run++) {
            Check.due("run", x.run(), run);
            Check.dueText("0 over 2 by the round in which 2 ran", Check.odds(x, 0, 2), "1/2");
            Check.dueText("2 over 0 by the round in which 2 ran", Check.odds(x, 2, 0), "1/1");
        }
        Check.due("1 dropped out in the end", x.dropped(1), 3);
        Check.dueText("0 over 1", Check.odds(x, 0, 1), "1/2");
        RaceTuning y = Check.raced(new int[][] {{1, 1}, {2, 2}, {3, 3}});
        y.race(0, 24, 1, 2, 1, 1000, 0);
        Check.runAll(y, 2);
        Check.dueText("a round that is not done does not count", Check.odds(y, 0, 1), "1/1");
        Check.due("run", y.run(), 3);
        Check.dueText("now it does", Check.odds(y, 0, 1), "1/2");
        Check.due("run", y.run(), 4);
        Check.due("run", y.run(), 5);
        Check.dueText("the second is not done", Check.odds(y, 0, 1), "1/2");
    }

    private static void theLongestRace() {
        int[] a = new int[24];
        int[] b = new int[24];
        for (int i = 0; i < 24; i++) {
            b[i] = i + 1;
        }
        for (int kind = 0; kind < 2; kind++) {
            RaceTuning x = full(kind, a, b);
            Check.dueText("all of 24", Check.odds(x, 0, 1), "1/16777216");
            Check.dueText("none of 24", Check.odds(x, 1, 0), "1/1");
        }
        a[0] = 2;
        RaceTuning y = full(0, a, b);
        Check.dueText("23 of 24", Check.odds(y, 0, 1), "25/16777216");
        Check.dueText("1 of 24", Check.odds(y, 1, 0), "16777215/16777216");
        RaceTuning z = full(1, a, b);
        Check.dueText("598 of 600", Check.odds(z, 0, 1), "1/8388608");
    }

    private static void failedCountsAsItsCost() {
        RaceTuning x = full(1, new int[] {0, 1000000, -1}, new int[] {999999, 0, -1});
        Check.dueText("the lesser difference of two", Check.odds(x, 0, 1), "3/4");
        RaceTuning y = full(1, new int[] {0, 1000000}, new int[] {-1, 0});
        Check.dueText("the greater difference of two", Check.odds(y, 0, 1), "1/2");
    }
}
