/** Promises 9 to 12: who is left, what is told of a race, ranks, and who dropped out. */
public final class StandingTest {
    private static final int LEAST = Integer.MIN_VALUE;
    private static final int MOST = Integer.MAX_VALUE;

    private StandingTest() {
    }

    public static void main(String[] args) throws Exception {
        Check.all(StandingTest.class);
    }

    private static void dueLeft(RaceTuning x, int... want) {
        Check.due("how many are left", x.left(-1), want.length);
        for (int k = 0; k < want.length; k++) {
            Check.due("left(" + k + ")", x.left(k), want[k]);
        }
        Check.due("left(" + want.length + ")", x.left(want.length), -1);
    }

    private static void dueRanks(RaceTuning x, int... want) {
        for (int s = 0; s < want.length; s++) {
            Check.due("rank(" + s + ")", x.rank(s), want[s]);
        }
    }

    /** All rounds are run and no one drops out ahead of the last one's end. */
    private static RaceTuning dropped(int[][] costs, int up, int down, int least) {
        RaceTuning x = Check.raced(costs);
        x.race(0, costs[0].length, up, down, least, 1000, 0);
        Check.runAll(x, costs.length * costs[0].length);
        return x;
    }

    @Says(promise = 9, value = "How many are left (k = -1), the k-th by numbers.")
    static void leftAtTheStartAndLater() {
        RaceTuning x = Check.raced(new int[][] {{9, 9}, {1, 1}, {9, 9}, {1, 1}, {1, 1}});
        x.race(0, 1, 1, 2, 1, 1000, 0);
        dueLeft(x, 0, 1, 2, 3, 4);
        Check.runAll(x, 4);
        dueLeft(x, 0, 1, 2, 3, 4);
        Check.due("run", x.run(), 5);
        dueLeft(x, 1, 3, 4);
    }

    @Says(promise = 9, value = "How many are left (k = -1),")
    static void leftOfOne() {
        RaceTuning x = Check.withSettings(1);
        x.race(0, 1, 1, 2, 1, 1000, 0);
        dueLeft(x, 0);
    }

    @Says(promise = 9, value = "-1 (also no RACE).")
    static void leftAtNoSuchPlace() {
        RaceTuning x = Check.withSettings(3);
        x.race(0, 1, 1, 2, 1, 1000, 0);
        for (int k : new int[] {LEAST, -3, -2, 3, 4, 12, MOST}) {
            Check.due("left(" + k + ")", x.left(k), -1);
        }
        Check.due("the last place", x.left(2), 2);
    }

    @Says(promise = 9, value = "-1 (also no RACE).")
    static void leftWithoutRace() {
        RaceTuning x = Check.withSettings(3);
        Check.due("how many", x.left(-1), -1);
        Check.due("the first", x.left(0), -1);
    }

    @Says(promise = 10, value = "Of the RACE: what = 0 why it is OVER (0: it is not), 1 ROUNDS done, 2 RUNS done,")
    static void roundsAndRunsDone() {
        RaceTuning x = Check.raced(new int[3][2]);
        x.race(0, 24, 1, 2, 1, 1000, 0);
        int[] rounds = {0, 0, 0, 1, 1, 1, 2};
        for (int runs = 0; runs <= 6; runs++) {
            Check.due("over behind " + runs, x.raceOf(0), runs < 6 ? 0 : 2);
            Check.due("rounds behind " + runs, x.raceOf(1), rounds[runs]);
            Check.due("runs", x.raceOf(2), runs);
            x.run();
        }
    }

    @Says(promise = 10, value = "3 THE LEADER, 4 how many dropped out.")
    static void leaderAndHowManyDroppedOut() {
        RaceTuning x = Check.raced(new int[][] {{5, 5}, {1, 1}, {5, 5}, {1, 1}});
        x.race(0, 1, 1, 2, 1, 1000, 0);
        Check.due("the leader before a round", x.raceOf(3), 0);
        Check.due("no one dropped out", x.raceOf(4), 0);
        Check.runAll(x, 4);
        Check.due("the leader behind it", x.raceOf(3), 1);
        Check.due("two dropped out", x.raceOf(4), 2);
    }

    @Says(promise = 10, value = "-2;")
    static void raceOfOutsideItsBounds() {
        RaceTuning x = Check.withSettings(2);
        x.race(0, 1, 1, 2, 1, 1000, 0);
        for (int what : new int[] {LEAST, -1, 5, 6, MOST}) {
            Check.due("raceOf(" + what + ")", x.raceOf(what), -2);
        }
    }

    @Says(promise = 10, value = "-3 no RACE.")
    static void raceOfWithoutRace() {
        RaceTuning x = Check.raced(new int[2][2]);
        for (int what = 0; what < 5; what++) {
            Check.due("raceOf(" + what + ")", x.raceOf(what), -3);
        }
    }

    @Says(promise = 11, value = "RANK of a SETTING that is left.")
    static void ranksBeforeARound() {
        RaceTuning x = Check.raced(new int[][] {{5}, {4}, {6}});
        x.race(0, 24, 1, 2, 1, 1000, 3);
        dueRanks(x, 0, 0, 0);
        x.run();
        x.run();
        dueRanks(x, 0, 0, 0);
        x.run();
        dueRanks(x, 2, 0, 4);
    }

    @Says(promise = 11, value = "-1 (also no RACE).")
    static void rankOfNoSettingLeft() {
        RaceTuning x = dropped(new int[][] {{1}, {1}, {2}}, 1, 2, 1);
        Check.due("one that dropped out", x.rank(2), -1);
        for (int none : new int[] {LEAST, -1, 3, 12, MOST}) {
            Check.due("rank(" + none + ")", x.rank(none), -1);
        }
        x.setting();
        Check.due("one that came later", x.rank(3), -1);
        Check.due("one that is left", x.rank(1), 1);
    }

    @Says(promise = 11, value = "-1 (also no RACE).")
    static void rankWithoutRace() {
        Check.due("rank", Check.raced(new int[2][2]).rank(0), -1);
    }

    @Says(promise = 0, value = {"RANKS: in each ROUND done, a SETTING left has 2 for each other one left with less "
        + "COST there, 1 for each with the same;", "its RANK is the sum over these ROUNDS."})
    static void ranksAreSums() {
        RaceTuning x = Check.raced(new int[][] {{5, 5, 9}, {7, 5, 8}, {7, 4, 7}});
        x.race(0, 24, 1, 2, 1, 1000, 3);
        Check.runAll(x, 9);
        dueRanks(x, 0 + 3 + 4, 3 + 3 + 2, 3 + 0 + 0);
    }

    @Says(promise = 0, value = "in each ROUND done,")
    static void ranksOfARoundThatIsNotDone() {
        RaceTuning x = Check.raced(new int[][] {{5, 5}, {4, 4}});
        x.race(0, 24, 1, 2, 1, 1000, 3);
        Check.runAll(x, 2);
        dueRanks(x, 2, 0);
        Check.due("run", x.run(), 3);
        dueRanks(x, 2, 0);
        Check.due("run", x.run(), 4);
        dueRanks(x, 4, 0);
    }

    @Says(promise = 0, value = "1 for each with the same;")
    static void ranksOfLikeOnes() {
        RaceTuning x = Check.raced(new int[12][3]);
        x.race(0, 24, 1, 2, 1, 1000, 3);
        Check.runAll(x, 36);
        for (int s = 0; s < 12; s++) {
            Check.due("rank(" + s + ")", x.rank(s), 33);
        }
    }

    /** Setting 3 drops out behind round 1; what it cost the others in rank goes with it. */
    @Says(promise = 0, value = "a SETTING left has 2 for each other one left with less COST there,")
    static void ranksAmongThoseLeft() {
        RaceTuning x = Check.raced(new int[][] {{5, 5}, {5, 5}, {9, 9}, {9, 9}, {4, 9}});
        x.race(0, 24, 1, 2, 1, 1000, 42);
        Check.runAll(x, 5);
        dueRanks(x, 3, 3, 7, 7, 0);
        x.race(0, 1, 1, 2, 4, 1000, 42);
        Check.runAll(x, 5);
        Check.due("3 dropped out", x.dropped(3), 1);
        dueRanks(x, 3, 3, 6, -1, 0);
    }

    @Says(promise = 0, value = "a SETTING left has 2 for each other one left with less COST there,")
    static void rankOfTheOnlyOneLeft() {
        RaceTuning x = dropped(new int[][] {{1, 2}, {2, 1}, {3, 3}}, 1, 1, 1);
        dueLeft(x, 0);
        Check.due("its rank", x.rank(0), 0);
    }

    @Says(promise = 0, value = "THE LEADER has the least RANK, of like ones the least number.")
    static void leaderOfLikeOnes() {
        RaceTuning x = Check.raced(new int[][] {{9, 9}, {5, 5}, {5, 5}});
        x.race(0, 24, 1, 2, 1, 1000, 0);
        Check.due("before a round all are alike", x.raceOf(3), 0);
        Check.runAll(x, 6);
        Check.due("of 1 and 2", x.raceOf(3), 1);
    }

    @Says(promise = 0, value = "THE LEADER has the least RANK,")
    static void leaderOfThoseLeft() {
        RaceTuning x = dropped(new int[][] {{5}, {7}, {1}, {1}, {9}}, 1, 2, 4);
        dueLeft(x, 0, 1, 2, 3);
        dueRanks(x, 4, 6, 1, 1, -1);
        Check.due("neither the first one left nor the last", x.raceOf(3), 2);
    }

    /** 1 is worse than 0 by its sum of costs, but better by ranks. */
    @Says(promise = 0, value = "THE LEADER has the least RANK,")
    static void leaderByRankAlone() {
        RaceTuning x = Check.raced(new int[][] {{2, 2, 2}, {1, 1, 900000}});
        x.race(0, 24, 1, 2, 1, 1000, 0);
        Check.runAll(x, 6);
        Check.due("the leader", x.raceOf(3), 1);
    }

    /** Ranks of all four are 7, 6, 16, 7; 2 is worse than the leader 1 three times; of those left all have 6. */
    @Says(promise = 0, value = "THE LEADER has the least RANK,")
    static void leaderChangesWhenOthersDropOut() {
        RaceTuning x = Check.raced(new int[][] {{0, 0, 1}, {0, 1, 0}, {1, 2, 1}, {0, 0, 1}});
        x.race(0, 24, 1, 8, 1, 1000, 0);
        Check.runAll(x, 12);
        dueRanks(x, 7, 6, 16, 7);
        Check.due("the leader of all", x.raceOf(3), 1);
        x.race(0, 3, 1, 8, 1, 1000, 0);
        Check.runAll(x, 12);
        dueLeft(x, 0, 1, 3);
        dueRanks(x, 6, 6, -1, 6);
        Check.due("the leader of those left", x.raceOf(3), 0);
    }

    /** Ranks are 8, 6, 5, 5. Without 0 the leader would be 1, and 3 would go instead of it. */
    @Says(promise = 0, value = "DROPPING: LEADER and RANKS as the ROUND ended;")
    static void leaderAsTheRoundEnded() {
        dueLeft(dropped(new int[][] {{1, 1}, {2, 0}, {0, 1}, {0, 1}}, 1, 1, 2), 2, 3);
    }

    /** Ranks are 4, 5, 4, 11. Without 3 all have 4, and 2 would go ahead of 1. */
    @Says(promise = 0, value = "DROPPING: LEADER and RANKS as the ROUND ended;")
    static void ranksAsTheRoundEnded() {
        dueLeft(dropped(new int[][] {{1, 1}, {2, 0}, {1, 1}, {2, 2}}, 1, 1, 2), 0, 2);
    }

    @Says(promise = 0, value = "the others, from the greatest RANK on")
    static void fromTheGreatestRankOn() {
        int[][] costs = {{7, 7}, {9, 9}, {5, 5}, {3, 3}, {4, 4}, {1, 1}};
        dueLeft(dropped(costs, 1, 4, 5), 0, 2, 3, 4, 5);
        dueLeft(dropped(costs, 1, 4, 4), 2, 3, 4, 5);
        dueLeft(dropped(costs, 1, 4, 3), 3, 4, 5);
        dueLeft(dropped(costs, 1, 4, 2), 3, 5);
        dueLeft(dropped(costs, 1, 4, 1), 5);
    }

    @Says(promise = 0, value = "(of like ones the greatest number first):")
    static void theGreatestNumberOfLikeOnesFirst() {
        int[][] costs = {{5}, {1}, {5}, {5}};
        dueLeft(dropped(costs, 1, 2, 3), 0, 1, 2);
        dueLeft(dropped(costs, 1, 2, 2), 0, 1);
        dueLeft(dropped(costs, 1, 2, 1), 1);
    }

    @Says(promise = 0, value = "one drops out, if ODDS of THE LEADER over it are not above LEVEL (up over down),")
    static void oddsThatAreTheLevelDrop() {
        int[][] costs = {{1, 1, 1}, {2, 2, 2}};
        dueLeft(dropped(costs, 1, 8, 1), 0);
        dueLeft(dropped(costs, 125, 1000, 1), 0);
        dueLeft(dropped(costs, 126, 1000, 1), 0);
        dueLeft(dropped(costs, 1, 1, 1), 0);
    }

    @Says(promise = 0, value = "if ODDS of THE LEADER over it are not above LEVEL (up over down),")
    static void oddsAboveTheLevelStay() {
        int[][] costs = {{1, 1, 1}, {2, 2, 2}};
        dueLeft(dropped(costs, 1, 9, 1), 0, 1);
        dueLeft(dropped(costs, 124, 1000, 1), 0, 1);
        dueLeft(dropped(costs, 1, 1000, 1), 0, 1);
    }

    @Says(promise = 0, value = "if ODDS of THE LEADER over it are not above LEVEL (up over down),")
    static void oddsOfLikeOnesDropAtOneOverOneAlone() {
        int[][] costs = {{4, 4}, {4, 4}};
        dueLeft(dropped(costs, 1, 1, 1), 0);
        dueLeft(dropped(costs, 1000, 1000, 1), 0);
        dueLeft(dropped(costs, 999, 1000, 1), 0, 1);
    }

    /** 24 rounds that all speak for 0: odds of 1 in 2^24 are far below the least level, 1/1000. */
    @Says(promise = 0, value = "if ODDS of THE LEADER over it are not above LEVEL (up over down),")
    static void theLeastOddsDropAtTheLeastLevel() {
        int[] worse = new int[24];
        java.util.Arrays.fill(worse, 1);
        dueLeft(dropped(new int[][] {new int[24], worse}, 1, 1000, 1), 0);
        RaceTuning x = Check.raced(new int[][] {new int[24], worse});
        x.race(0, 1, 1, 1000, 1, 1000, 0);
        Check.runAll(x, 20);
        Check.due("1/1024 is the first that is not above", x.dropped(1), 10);
    }

    /** 2 has the greatest rank but beats 0 once, so it stays at 1/4; 1 never beats it and drops out. */
    @Says(promise = 0, value = "the others, from the greatest RANK on")
    static void droppingGoesOnPastOneThatStays() {
        RaceTuning x = dropped(new int[][] {{1, 3}, {2, 4}, {9, 2}, {8, 5}}, 1, 4, 1);
        dueLeft(x, 0, 2);
        Check.due("1 dropped out", x.dropped(1), 2);
        Check.due("3 dropped out", x.dropped(3), 2);
    }

    @Says(promise = 0, value = "as long as more than LEAST are left.")
    static void leastAreLeft() {
        int[][] costs = new int[12][1];
        for (int least = 1; least < 12; least++) {
            RaceTuning x = dropped(costs, 1, 1, least);
            Check.due("left with least " + least, x.left(-1), least);
            Check.due("the last one left", x.left(least - 1), least - 1);
            Check.due("the last one that dropped out", x.dropped(least), 1);
        }
    }

    /** Seed 0 puts instance 3 first, on which 1 and 0 are alike; so 1 comes to odds of 1/8 a round later than 2. */
    @Says(promise = 12, value = "The ROUND behind which a SETTING of the RACE dropped out, from 1.")
    static void theRoundBehindWhichItDroppedOut() {
        RaceTuning x = Check.raced(new int[][] {{1, 1, 1, 1}, {2, 2, 2, 1}, {2, 2, 2, 2}});
        x.race(0, 1, 1, 8, 1, 1000, 0);
        Check.runAll(x, 11);
        Check.due("2 dropped out", x.dropped(2), 3);
        Check.due("1 dropped out", x.dropped(1), 4);
        x.race(0, 1, 1, 2, 1, 1000, 0);
        Check.runAll(x, 3);
        Check.due("behind the first round", x.dropped(2), 1);
    }

    @Says(promise = 12, value = "from 1.")
    static void theLastRoundBehindWhichOneCanDropOut() {
        int[] worse = new int[24];
        worse[0] = 1;
        RaceTuning x = dropped(new int[][] {new int[24], worse}, 1, 2, 1);
        Check.due("behind round 24", x.dropped(1), 24);
    }

    @Says(promise = 12, value = "-1 (also no RACE, none of it);")
    static void droppedOfNoneOfTheRace() {
        RaceTuning x = dropped(new int[][] {{1}, {2}}, 1, 2, 1);
        for (int none : new int[] {LEAST, -1, 2, 12, MOST}) {
            Check.due("dropped(" + none + ")", x.dropped(none), -1);
        }
        x.setting();
        Check.due("one that came later", x.dropped(2), -1);
        Check.due("one that dropped out", x.dropped(1), 1);
    }

    @Says(promise = 12, value = "-1 (also no RACE, none of it);")
    static void droppedWithoutRace() {
        Check.due("dropped", Check.raced(new int[2][2]).dropped(0), -1);
    }

    @Says(promise = 12, value = "-3 it is left.")
    static void droppedOfOneThatIsLeft() {
        RaceTuning x = Check.raced(new int[][] {{1}, {2}});
        x.race(0, 1, 1, 2, 1, 1000, 0);
        Check.due("0 before the round", x.dropped(0), -3);
        Check.due("1 before the round", x.dropped(1), -3);
        Check.runAll(x, 2);
        Check.due("0 behind it", x.dropped(0), -3);
        Check.due("1 behind it", x.dropped(1), 1);
    }
}
