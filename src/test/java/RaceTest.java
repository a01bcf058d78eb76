/** Promises 6 to 12: race, wants, run, left, raceOf, rank, dropped. */
public final class RaceTest {
    private static final int[][] THREE_BY_FOUR = {{1, 1, 1, 1}, {2, 2, 2, 2}, {3, 3, 3, 3}};

    private RaceTest() {
    }

    public static void main(String[] args) {
        raceBounds();
        refusedRaceKeepsTheOld();
        order();
        negativeSeed();
        heldOutDoNotRace();
        whatComesLaterIsNotInIt();
        runWaitsForCost();
        overWithFewLeft();
        overWithoutInstance();
        overWithoutBudget();
        reasonsInOrder();
        firstRounds();
        ranksAmongThoseLeft();
        ranksCountRoundsDoneOnly();
        leaderChangesWhenOthersDrop();
        leaderOfLikeOnes();
        droppingGoesOnPastOneThatStays();
        droppingFromTheGreatestRank();
        droppingTheOtherWayRound();
        droppingFromTheGreatestNumber();
        levelItselfDrops();
        leftAndDropped();
        newRaceInsteadOfOld();
        Check.end();
    }

    private static void raceBounds() {
        RaceTuning x = new RaceTuning();
        Check.due("race without settings", x.race(0, 1, 1, 1, 1, 0, 0), -3);
        Check.due("bounds come before that", x.race(-1, 1, 1, 1, 1, 0, 0), -2);
        x.setting();
        int[][] wrong = {
            {-1, 1, 1, 1, 1, 0}, {2, 1, 1, 1, 1, 0}, {0, 0, 1, 1, 1, 0}, {0, 25, 1, 1, 1, 0},
            {0, 1, 0, 1, 1, 0}, {0, 1, 1, 0, 1, 0}, {0, 1, 0, 0, 1, 0}, {0, 1, -1, 1, 1, 0},
            {0, 1, 1, 1001, 1, 0}, {0, 1, 1001, 1001, 1, 0}, {0, 1, 2, 1, 1, 0}, {0, 1, 1000, 999, 1, 0},
            {0, 1, 1, 1, 0, 0}, {0, 1, 1, 1, 13, 0}, {0, 1, 1, 1, 1, -1}, {0, 1, 1, 1, 1, 1001},
            {Integer.MIN_VALUE, 1, 1, 1, 1, 0}, {0, Integer.MAX_VALUE, 1, 1, 1, 0}
        };
        for (int[] w : wrong) {
            Check.due("race" + java.util.Arrays.toString(w), x.race(w[0], w[1], w[2], w[3], w[4], w[5], 1), -2);
        }
        Check.due("no race began", x.left(-1), -1);
        int[][] right = {
            {0, 1, 1, 1, 1, 0}, {1, 24, 1000, 1000, 12, 1000}, {0, 1, 1, 1000, 1, 0}, {1, 1, 999, 1000, 1, 1}
        };
        for (int[] r : right) {
            Check.due("race" + java.util.Arrays.toString(r), x.race(r[0], r[1], r[2], r[3], r[4], r[5], 1), 1);
        }
    }

    private static void refusedRaceKeepsTheOld() {
        RaceTuning x = Check.raced(THREE_BY_FOUR);
        Check.due("race", x.race(0, 24, 1, 2, 1, 1000, 5), 3);
        Check.runAll(x, 4);
        Check.due("a refused race", x.race(0, 25, 1, 2, 1, 1000, 5), -2);
        Check.due("runs of the old race", x.raceOf(2), 4);
        Check.due("rounds of the old race", x.raceOf(1), 1);
        Check.due("wants of the old race", x.wants(0), 1);
        Check.due("the old race goes on", x.run(), 5);
    }

    /**
     * Worked out by hand from seed 42: x is 3397979675, >>> 16 is 51849, modulo 3 is 0; then x is 3263785912,
     * >>> 16 is 49801, modulo 2 is 1. So 0 and 2 change places and 1 stays.
     */
    private static void order() {
        RaceTuning x = Check.raced(new int[2][3]);
        Check.due("race", x.race(0, 24, 1, 2, 1, 1000, 42), 2);
        int[] want = {2, 1, 0};
        for (int r = 0; r < 3; r++) {
            Check.due("wants(0), round " + r, x.wants(0), 0);
            Check.due("wants(1), round " + r, x.wants(1), want[r]);
            x.run();
            Check.due("wants(0), later in round " + r, x.wants(0), 1);
            Check.due("wants(1), later in round " + r, x.wants(1), want[r]);
            x.run();
        }
        Check.due("wants(0) when it is over", x.wants(0), -3);
        Check.due("wants(1) when it is over", x.wants(1), -3);
        Check.due("wants(2) when it is over", x.wants(2), -2);
        Check.due("wants(-1)", x.wants(-1), -2);
    }

    private static void negativeSeed() {
        int[] seeds = {-1, Integer.MIN_VALUE, Integer.MAX_VALUE, 0, 123456789};
        for (int seed : seeds) {
            RaceTuning x = Check.raced(new int[2][24]);
            x.race(1, 24, 1, 2, 1, 1000, seed);
            int[] want = handOrder(24, seed);
            for (int r = 0; r < 24; r++) {
                Check.due("seed " + seed + ", place " + r, x.wants(1), want[r]);
                x.run();
                x.run();
            }
        }
    }

    private static int[] handOrder(int count, int seed) {
        int[] row = new int[count];
        for (int i = 0; i < count; i++) {
            row[i] = i;
        }
        long x = seed;
        for (int k = count - 1; k > 0; k--) {
            x = (x * 1103515245L + 12345L) & 0xFFFFFFFFL;
            int j = (int) ((x >> 16) % (k + 1));
            int moved = row[j];
            row[j] = row[k];
            row[k] = moved;
        }
        return row;
    }

    private static void heldOutDoNotRace() {
        RaceTuning x = new RaceTuning();
        x.setting();
        x.setting();
        x.instance(0, 0, true);
        x.instance(0, 0, false);
        x.instance(0, 0, true);
        x.cost(0, 1, 5);
        x.cost(1, 1, 5);
        x.race(0, 1, 1, 2, 1, 1000, 9);
        Check.due("the only learning instance", x.wants(1), 1);
        Check.runAll(x, 2);
        Check.due("over without an instance more", x.raceOf(0), 2);
        Check.due("no run more", x.run(), -3);
    }

    private static void whatComesLaterIsNotInIt() {
        RaceTuning x = Check.raced(new int[][] {{1}, {1}});
        x.race(0, 1, 1, 2, 1, 1000, 9);
        Check.due("setting that comes later", x.setting(), 2);
        x.instance(0, 0, false);
        Check.due("left", x.left(-1), 2);
        Check.due("rank of the later one", x.rank(2), -1);
        Check.due("dropped of the later one", x.dropped(2), -1);
        Check.due("odds of the later one", x.odds(0, 2, 0), RaceTuning.NOTHING);
        Check.due("odds over the later one", x.odds(2, 0, 0), RaceTuning.NOTHING);
        Check.due("mean of the later one", Check.meanOf(x, 2, 0, 0), RaceTuning.NOTHING);
        Check.runAll(x, 2);
        Check.due("over by the instances of its beginning", x.raceOf(0), 2);
        Check.due("a new race has all", x.race(0, 1, 1, 2, 1, 1000, 9), 3);
        Check.due("rank of the later one now", x.rank(2), 0);
    }

    private static void runWaitsForCost() {
        RaceTuning x = new RaceTuning();
        x.setting();
        x.setting();
        x.instance(0, 0, false);
        x.race(0, 1, 1, 1, 1, 1000, 0);
        Check.due("run without cost", x.run(), -3);
        Check.due("wants without cost", x.wants(0), 0);
        x.cost(1, 0, 4);
        Check.due("run with another one's cost", x.run(), -3);
        x.cost(0, 0, 4);
        Check.due("run with cost", x.run(), 1);
        Check.due("wants the next one", x.wants(0), 1);
        Check.due("the last run", x.run(), 2);
        Check.due("rounds", x.raceOf(1), 1);
    }

    private static void overWithFewLeft() {
        RaceTuning x = Check.raced(THREE_BY_FOUR);
        x.race(0, 1, 1, 2, 3, 1000, 0);
        Check.due("as many as least", x.raceOf(0), 1);
        Check.due("run", x.run(), -3);
        Check.due("leader before a run", x.raceOf(3), 0);
        x.race(0, 1, 1, 2, 12, 1000, 0);
        Check.due("fewer than least", x.raceOf(0), 1);
        x.race(0, 1, 1, 2, 2, 1000, 0);
        Check.due("more than least", x.raceOf(0), 0);
        Check.runAll(x, 3);
        Check.due("down to least", x.raceOf(0), 1);
        Check.due("two left", x.left(-1), 2);
        Check.due("the greatest rank went", x.dropped(2), 1);
        Check.due("one dropped", x.raceOf(4), 1);
    }

    private static void overWithoutInstance() {
        RaceTuning x = Check.raced(new int[][] {{1, 1}, {1, 1}});
        x.race(0, 1, 1, 2, 1, 1000, 0);
        Check.runAll(x, 4);
        Check.due("no instance more", x.raceOf(0), 2);
        Check.due("run", x.run(), -3);
        Check.due("runs", x.raceOf(2), 4);
        RaceTuning y = new RaceTuning();
        y.setting();
        y.setting();
        y.race(0, 1, 1, 2, 1, 1000, 0);
        Check.due("no instance at all", y.raceOf(0), 2);
        Check.due("wants", y.wants(1), -3);
    }

    private static void overWithoutBudget() {
        RaceTuning x = Check.raced(new int[3][5]);
        int[] budgets = {2, 3, 5, 6, 8, 9};
        int[] rounds = {0, 1, 1, 2, 2, 3};
        for (int b = 0; b < budgets.length; b++) {
            x.race(0, 1, 1, 2, 1, budgets[b], 0);
            Check.runAll(x, rounds[b] * 3);
            Check.due("budget " + budgets[b] + " is used up", x.run(), -3);
            Check.due("reason with budget " + budgets[b], x.raceOf(0), 3);
            Check.due("rounds with budget " + budgets[b], x.raceOf(1), rounds[b]);
        }
        RaceTuning y = Check.raced(new int[][] {{1, 1, 1}, {1, 1, 1}, {2, 2, 2}});
        y.race(0, 1, 1, 2, 1, 5, 0);
        Check.runAll(y, 5);
        Check.due("the budget is held against those left", y.raceOf(1), 2);
        Check.due("reason", y.raceOf(0), 3);
    }

    private static void reasonsInOrder() {
        RaceTuning x = Check.raced(new int[2][1]);
        x.race(0, 1, 1, 2, 2, 0, 0);
        Check.due("few left before budget", x.raceOf(0), 1);
        x.race(0, 1, 1, 2, 1, 2, 0);
        Check.runAll(x, 2);
        Check.due("no instance before budget", x.raceOf(0), 2);
        RaceTuning y = Check.raced(new int[][] {{1}, {2}});
        y.race(0, 1, 1, 2, 1, 2, 0);
        Check.runAll(y, 2);
        Check.due("few left before the others", y.raceOf(0), 1);
    }

    private static void firstRounds() {
        for (int first = 1; first <= 4; first++) {
            RaceTuning x = Check.raced(THREE_BY_FOUR);
            x.race(0, first, 1, 1, 1, 1000, 77);
            Check.runAll(x, 3 * first);
            Check.due("over behind round " + first, x.raceOf(0), 1);
            Check.due("dropped behind round " + first, x.dropped(1), first);
            Check.due("dropped behind round " + first, x.dropped(2), first);
        }
        RaceTuning y = Check.raced(THREE_BY_FOUR);
        y.race(0, 5, 1, 1, 1, 1000, 77);
        Check.runAll(y, 12);
        Check.due("no one drops out before first", y.left(-1), 3);
        Check.due("reason", y.raceOf(0), 2);
    }

    /** Setting 3 drops out behind round 1; what it cost the others in rank goes with it. */
    private static void ranksAmongThoseLeft() {
        RaceTuning x = Check.raced(new int[][] {{5, 5}, {5, 5}, {5, 5}, {9, 9}});
        x.race(0, 1, 1, 2, 1, 1000, 3);
        Check.due("rank before a round", x.rank(0), 0);
        Check.runAll(x, 4);
        Check.due("one dropped out", x.dropped(3), 1);
        for (int s = 0; s < 3; s++) {
            Check.due("rank of " + s, x.rank(s), 2);
        }
        Check.due("rank of one that dropped out", x.rank(3), -1);
        Check.due("rank of no setting", x.rank(4), -1);
        Check.due("rank(-1)", x.rank(-1), -1);
        RaceTuning y = Check.raced(new int[][] {{5, 5}, {7, 7}, {9, 9}});
        y.race(0, 2, 1, 1000, 1, 1000, 3);
        Check.runAll(y, 6);
        Check.due("rank of the best", y.rank(0), 0);
        Check.due("rank of the middle one", y.rank(1), 4);
        Check.due("rank of the worst", y.rank(2), 8);
    }

    private static void ranksCountRoundsDoneOnly() {
        RaceTuning x = Check.raced(new int[][] {{5, 5}, {4, 4}});
        x.race(0, 24, 1, 2, 1, 1000, 3);
        Check.runAll(x, 1);
        Check.due("rank in the first round", x.rank(0), 0);
        Check.due("leader in the first round", x.raceOf(3), 0);
        Check.due("rounds in the first round", x.raceOf(1), 0);
        Check.due("run", x.run(), 2);
        Check.due("rank behind the first round", x.rank(0), 2);
        Check.due("leader behind the first round", x.raceOf(3), 1);
        Check.due("run", x.run(), 3);
        Check.due("rank in the second round", x.rank(0), 2);
        Check.due("runs", x.raceOf(2), 3);
    }

    /** Ranks of all four are 7, 6, 16, 7; 2 is worse than the leader 1 three times; of those left all have 6. */
    private static void leaderChangesWhenOthersDrop() {
        RaceTuning x = Check.raced(new int[][] {{0, 0, 1}, {0, 1, 0}, {1, 2, 1}, {0, 0, 1}});
        x.race(0, 24, 1, 8, 1, 1000, 0);
        Check.runAll(x, 12);
        Check.due("rank of 0 among all", x.rank(0), 7);
        Check.due("the leader of all", x.raceOf(3), 1);
        x.race(0, 3, 1, 8, 1, 1000, 0);
        Check.runAll(x, 12);
        Check.due("2 alone dropped out", x.raceOf(4), 1);
        Check.due("2 dropped out", x.dropped(2), 3);
        Check.due("rank of 0 among those left", x.rank(0), 6);
        Check.due("rank of 1 among those left", x.rank(1), 6);
        Check.due("the leader of those left", x.raceOf(3), 0);
    }

    private static void leaderOfLikeOnes() {
        RaceTuning x = Check.raced(new int[][] {{9, 9}, {5, 5}, {5, 5}});
        x.race(0, 24, 1, 2, 1, 1000, 0);
        Check.runAll(x, 6);
        Check.due("of like ones the least number", x.raceOf(3), 1);
        Check.due("raceOf(5)", x.raceOf(5), -2);
        Check.due("raceOf(-1)", x.raceOf(-1), -2);
        Check.due("no one dropped out", x.raceOf(4), 0);
    }

    /** 2 has the greatest rank but beats 0 once, so it stays at 1/4; 1 never beats it and drops out. */
    private static void droppingGoesOnPastOneThatStays() {
        RaceTuning x = Check.raced(new int[][] {{1, 3}, {2, 4}, {9, 2}, {8, 5}});
        x.race(0, 2, 1, 4, 1, 1000, 0);
        Check.runAll(x, 8);
        Check.due("rank of 2 among those left", x.rank(2), 2);
        Check.due("1 dropped out", x.dropped(1), 2);
        Check.due("2 stays", x.dropped(2), -3);
        Check.due("3 dropped out", x.dropped(3), 2);
        Check.due("0 leads", x.dropped(0), -3);
        Check.due("why", x.raceOf(0), 2);
    }

    private static void droppingFromTheGreatestRank() {
        RaceTuning x = Check.raced(new int[][] {{1}, {9}, {5}, {7}});
        x.race(0, 1, 1, 2, 2, 1000, 0);
        Check.runAll(x, 4);
        Check.due("the greatest rank", x.dropped(1), 1);
        Check.due("the next one", x.dropped(3), 1);
        Check.due("least are left", x.dropped(2), -3);
        Check.due("why", x.raceOf(0), 1);
    }

    /** The better, the greater the number: all ranks have to be put in another order than the numbers. */
    private static void droppingTheOtherWayRound() {
        RaceTuning x = Check.raced(new int[][] {{7, 7}, {9, 9}, {5, 5}, {3, 3}, {4, 4}, {1, 1}});
        int[] goes = {1, 0, 2, 4, 3};
        for (int least = 5; least >= 1; least--) {
            x.race(1, 1, 1, 2, least, 1000, 4);
            Check.runAll(x, 6);
            Check.due("left with least " + least, x.left(-1), least);
            Check.due("the leader with least " + least, x.raceOf(3), 5);
            for (int k = 0; k < 5; k++) {
                Check.due("dropped(" + goes[k] + ") with least " + least, x.dropped(goes[k]), k < 6 - least ? 1 : -3);
            }
        }
    }

    private static void droppingFromTheGreatestNumber() {
        RaceTuning x = Check.raced(new int[][] {{5}, {1}, {5}, {5}});
        x.race(1, 1, 1, 2, 3, 1000, 0);
        Check.runAll(x, 4);
        Check.due("of like ones the greatest number", x.dropped(3), 1);
        Check.due("0 stays", x.dropped(0), -3);
        Check.due("2 stays", x.dropped(2), -3);
    }

    private static void levelItselfDrops() {
        int[][] levels = {{1, 8, 1}, {1, 9, 2}, {124, 1000, 2}, {125, 1000, 1}, {126, 1000, 1}, {1000, 1000, 1}};
        for (int[] level : levels) {
            RaceTuning x = Check.raced(new int[][] {{1, 1, 1}, {2, 2, 2}});
            x.race(0, 3, level[0], level[1], 1, 1000, 0);
            Check.runAll(x, 6);
            Check.due("odds of 1/8 at " + level[0] + "/" + level[1], x.left(-1), level[2]);
        }
        RaceTuning y = Check.raced(new int[][] {{1, 1}, {1, 1}, {1, 1}});
        y.race(1, 1, 1, 1, 2, 1000, 0);
        Check.runAll(y, 3);
        Check.due("odds of 1/1 are not above 1/1", y.dropped(2), 1);
        Check.due("but least stay", y.left(-1), 2);
    }

    private static void leftAndDropped() {
        RaceTuning x = Check.raced(new int[][] {{9, 9}, {1, 1}, {9, 9}, {1, 1}, {1, 1}});
        x.race(0, 1, 1, 2, 1, 1000, 0);
        Check.due("left(4) at the start", x.left(4), 4);
        Check.due("left(5) at the start", x.left(5), -1);
        Check.runAll(x, 5);
        int[] want = {1, 3, 4, -1, -1};
        for (int k = 0; k < want.length; k++) {
            Check.due("left(" + k + ")", x.left(k), want[k]);
        }
        Check.due("left(-1)", x.left(-1), 3);
        Check.due("left(-2)", x.left(-2), -1);
        Check.due("left least", x.left(Integer.MIN_VALUE), -1);
        Check.due("left most", x.left(Integer.MAX_VALUE), -1);
        Check.due("wants those left alone", x.wants(0), 1);
        x.run();
        Check.due("wants those left alone", x.wants(0), 3);
        Check.due("dropped(0)", x.dropped(0), 1);
        Check.due("dropped(1)", x.dropped(1), -3);
        Check.due("dropped(5)", x.dropped(5), -1);
        Check.due("dropped(-1)", x.dropped(-1), -1);
        Check.due("two dropped out", x.raceOf(4), 2);
    }

    private static void newRaceInsteadOfOld() {
        RaceTuning x = Check.raced(THREE_BY_FOUR);
        x.race(0, 1, 1, 1, 1, 1000, 0);
        Check.runAll(x, 3);
        Check.due("over", x.raceOf(0), 1);
        Check.due("the new one", x.race(1, 2, 1, 4, 1, 1000, 0), 3);
        for (int what = 0; what < 5; what++) {
            Check.due("raceOf(" + what + ") anew", x.raceOf(what), 0);
        }
        Check.due("all are left anew", x.left(-1), 3);
        Check.due("dropped anew", x.dropped(2), -3);
        Check.due("mean anew", Check.meanOf(x, 0, 1, 0), RaceTuning.NOTHING);
        Check.dueText("odds anew", Check.odds(x, 0, 1), "1/1");
        Check.runAll(x, 6);
        Check.due("dropped behind round 2", x.dropped(2), 2);
    }
}
