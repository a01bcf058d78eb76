/** Promises 14 to 17: portfolio, pick, stump, heldOut. */
public final class ChoicesTest {
    private ChoicesTest() {
    }

    public static void main(String[] args) {
        portfolioRefusals();
        portfolios();
        portfolioOfLikeOnes();
        portfolioOfWholeOnesAlone();
        portfolioOfTwelve();
        picks();
        pickRefusals();
        stumps();
        stumpOfLikeOnes();
        stumpAtTheEdges();
        stumpRefusals();
        stumpOfTwelve();
        heldOutSums();
        heldOutAfterAChange();
        heldOutRefusals();
        heldOutWithoutLearning();
        greatestSums();
        Check.end();
    }

    /** Instances with these features, the held out ones marked, and these costs. */
    private static RaceTuning told(int[][] features, boolean[] heldOut, int[][] costs) {
        RaceTuning x = new RaceTuning();
        for (int s = 0; s < costs.length; s++) {
            x.setting();
        }
        for (int i = 0; i < features.length; i++) {
            x.instance(features[i][0], features[i][1], heldOut[i]);
        }
        Check.tell(x, costs);
        return x;
    }

    private static void duePortfolio(RaceTuning x, int sum, int... set) {
        Check.due("sum of " + set.length, x.portfolio(set.length, -1), sum);
        for (int i = 0; i < set.length; i++) {
            Check.due("place " + i + " of " + set.length, x.portfolio(set.length, i), set[i]);
        }
    }

    private static void dueStump(RaceTuning x, int feature, int cut, int below, int fromCut, int sum) {
        int[] want = {feature, cut, below, fromCut, sum};
        for (int what = 0; what < want.length; what++) {
            Check.due("stump(" + what + ")", x.stump(what), want[what]);
        }
    }

    private static void dueHeldOut(RaceTuning x, int... sums) {
        for (int by = 0; by < sums.length; by++) {
            Check.due("heldOut(" + by + ")", x.heldOut(by), sums[by]);
        }
    }

    private static void portfolioRefusals() {
        RaceTuning x = Check.raced(new int[][] {{1}, {2}});
        int[] below = {0, -1, Integer.MIN_VALUE};
        for (int k : below) {
            Check.due("portfolio(" + k + ", 0)", x.portfolio(k, 0), -2);
            Check.due("portfolio(" + k + ", -9)", x.portfolio(k, -9), -2);
        }
        int[] above = {3, 13, Integer.MAX_VALUE};
        for (int k : above) {
            Check.due("portfolio(" + k + ", -1)", x.portfolio(k, -1), -3);
            Check.due("portfolio(" + k + ", -9) before no place", x.portfolio(k, -9), -3);
        }
        int[] none = {-2, 2, 3, Integer.MIN_VALUE, Integer.MAX_VALUE};
        for (int i : none) {
            Check.due("portfolio(2, " + i + ")", x.portfolio(2, i), -1);
        }
        Check.due("portfolio(1, 1)", x.portfolio(1, 1), -1);
        RaceTuning y = new RaceTuning();
        Check.due("no setting at all, k below 1", y.portfolio(0, -9), -2);
        Check.due("no setting at all", y.portfolio(1, -9), -3);
    }

    /** The best one is in no set of two: 0 and 1 fit together. */
    private static void portfolios() {
        RaceTuning x = Check.raced(new int[][] {{0, 0, 9, 9}, {9, 9, 0, 1}, {4, 4, 4, 4}, {9, 9, 9, 0}});
        duePortfolio(x, 16, 2);
        duePortfolio(x, 1, 0, 1);
        duePortfolio(x, 0, 0, 1, 3);
        duePortfolio(x, 0, 0, 1, 2, 3);
    }

    private static void portfolioOfLikeOnes() {
        RaceTuning x = Check.raced(new int[][] {{5, 5}, {0, 9}, {9, 0}, {0, 9}, {9, 0}});
        duePortfolio(x, 9, 1);
        duePortfolio(x, 0, 1, 2);
        duePortfolio(x, 0, 0, 1, 2);
        RaceTuning y = Check.raced(new int[][] {{9, 0}, {5, 5}, {5, 5}, {0, 9}, {0, 9}});
        duePortfolio(y, 0, 0, 3);
        duePortfolio(y, 0, 0, 1, 3);
    }

    private static void portfolioOfWholeOnesAlone() {
        RaceTuning x = new RaceTuning();
        x.setting();
        x.setting();
        x.setting();
        x.instance(0, 0, false);
        x.instance(0, 0, true);
        x.cost(0, 0, 0);
        x.cost(1, 0, 7);
        x.cost(1, 1, 7);
        x.cost(2, 0, 6);
        x.cost(2, 1, 900);
        duePortfolio(x, 6, 2);
        duePortfolio(x, 6, 1, 2);
        Check.due("a setting that is not told on held out ones is not whole", x.portfolio(3, -1), -3);
        x.cost(0, 1, 1000);
        duePortfolio(x, 0, 0, 1, 2);
        duePortfolio(x, 0, 0);
        x.instance(0, 0, true);
        Check.due("an instance more and no one is whole", x.portfolio(1, -1), -3);
    }

    private static void portfolioOfTwelve() {
        int[][] costs = new int[12][24];
        for (int s = 0; s < 12; s++) {
            for (int i = 0; i < 24; i++) {
                costs[s][i] = i % 12 == 11 - s ? s : 100;
            }
        }
        RaceTuning x = Check.raced(costs);
        duePortfolio(x, 2 * (0 + 1 + 2 + 3 + 4 + 5) + 12 * 100, 0, 1, 2, 3, 4, 5);
        duePortfolio(x, 2 * 66, 0, 1, 2, 3, 4, 5, 6, 7, 8, 9, 10, 11);
        RaceTuning y = Check.raced(reversed(costs));
        duePortfolio(y, 2 * 15 + 12 * 100, 6, 7, 8, 9, 10, 11);
        duePortfolio(y, 2 * 55 + 2 * 100, 1, 2, 3, 4, 5, 6, 7, 8, 9, 10, 11);
    }

    private static int[][] reversed(int[][] rows) {
        int[][] turned = new int[rows.length][];
        for (int s = 0; s < rows.length; s++) {
            turned[s] = rows[rows.length - 1 - s];
        }
        return turned;
    }

    private static void picks() {
        int[][] features = {{50, 50}, {40, 60}, {60, 55}, {50, 50}, {50, 51}};
        boolean[] held = {false, false, false, true, true};
        RaceTuning x = told(features, held, new int[][] {{1, 9, 9, 9, 9}, {9, 1, 9, 9, 9}, {9, 9, 1, 0, 0}});
        Check.due("not itself: the nearest is 2 (15), not 1 (20)", x.pick(0), 2);
        Check.due("1: 0 (20), 2 (25)", x.pick(1), 0);
        Check.due("2: 0 (15)", x.pick(2), 0);
        Check.due("a held out one with the very features of 0", x.pick(3), 0);
        Check.due("held out ones are not near", x.pick(4), 0);
        RaceTuning y = told(new int[][] {{10, 10}, {12, 10}, {10, 8}, {10, 10}},
                new boolean[] {true, false, false, true}, new int[][] {{0, 5, 4, 0}, {0, 4, 4, 0}, {0, 4, 4, 0}});
        Check.due("of like near ones the least number, of like costs the least setting", y.pick(0), 1);
        Check.due("its own cost does not matter", y.pick(2), 1);
        Check.due("from 1 the nearest is 2", y.pick(1), 0);
        RaceTuning z = told(new int[][] {{90, 10}, {20, 80}, {95, 30}, {60, 60}}, new boolean[4],
                new int[][] {{0, 9, 9, 9}, {9, 0, 9, 9}, {9, 9, 0, 9}, {9, 9, 9, 0}});
        Check.due("0 has 140, 25, 80", z.pick(0), 2);
        Check.due("1 has 140, 125, 60", z.pick(1), 3);
        Check.due("2 has 25, 125, 65", z.pick(2), 0);
        Check.due("3 has 80, 60, 65", z.pick(3), 1);
    }

    private static void pickRefusals() {
        RaceTuning x = new RaceTuning();
        x.setting();
        int first = x.instance(1, 1, false);
        Check.due("no such instance", x.pick(1), -1);
        Check.due("pick(-1)", x.pick(-1), -1);
        Check.due("pick least", x.pick(Integer.MIN_VALUE), -1);
        Check.due("no whole setting, no other instance", x.pick(first), -3);
        x.cost(0, 0, 5);
        Check.due("no other instance", x.pick(first), -3);
        x.instance(1, 1, true);
        x.cost(0, 1, 5);
        Check.due("no other learning instance", x.pick(first), -3);
        Check.due("a held out one has the learning one", x.pick(1), 0);
        x.instance(1, 1, false);
        Check.due("another one, but no whole setting", x.pick(first), -3);
        x.cost(0, 2, 5);
        Check.due("another one and a whole setting", x.pick(first), 0);
    }

    private static void stumps() {
        int[][] features = {{10, 90}, {20, 10}, {30, 80}, {40, 20}};
        boolean[] held = new boolean[4];
        RaceTuning x = told(features, held, new int[][] {{5, 1, 5, 1}, {1, 5, 1, 5}, {3, 3, 3, 3}});
        dueStump(x, 1, 21, 0, 1, 4);
        RaceTuning y = told(features, held, new int[][] {{5, 5, 1, 1}, {1, 1, 5, 5}, {0, 9, 9, 9}});
        dueStump(y, 0, 21, 1, 0, 4);
        RaceTuning z = told(features, held, new int[][] {{5, 5, 1, 1}, {2, 1, 5, 5}, {0, 9, 9, 9}});
        dueStump(z, 0, 21, 1, 0, 5);
    }

    private static void stumpOfLikeOnes() {
        RaceTuning x = told(new int[][] {{10, 10}, {30, 30}}, new boolean[2], new int[][] {{9, 9}, {1, 1}, {1, 1}});
        dueStump(x, 0, 1, 0, 1, 2);
        RaceTuning y = told(new int[][] {{10, 10}, {30, 30}}, new boolean[2], new int[][] {{1, 9}, {9, 1}, {1, 1}});
        dueStump(y, 0, 1, 0, 2, 2);
        RaceTuning z = told(new int[][] {{0, 0}, {30, 30}}, new boolean[2], new int[][] {{1, 9}, {9, 1}, {1, 1}});
        dueStump(z, 0, 1, 0, 1, 2);
    }

    private static void stumpAtTheEdges() {
        RaceTuning x = told(new int[][] {{0, 99}, {0, 100}}, new boolean[2], new int[][] {{1, 9}, {9, 1}});
        dueStump(x, 1, 100, 0, 1, 2);
        RaceTuning y = told(new int[][] {{0, 0}, {1, 1}}, new boolean[2], new int[][] {{1, 9}, {9, 1}});
        dueStump(y, 0, 1, 0, 1, 2);
        RaceTuning z = told(new int[][] {{50, 100}, {50, 100}}, new boolean[2], new int[][] {{7, 9}, {9, 1}});
        dueStump(z, 0, 1, 0, 1, 10);
        RaceTuning w = told(new int[][] {{10, 10}, {30, 30}, {11, 0}}, new boolean[] {false, false, true},
                new int[][] {{1, 9, 9}, {9, 1, 9}, {9, 9, 0}});
        dueStump(w, 0, 11, 0, 1, 2);
    }

    private static void stumpOfTwelve() {
        int[][] costs = new int[12][24];
        int[][] features = new int[24][2];
        for (int i = 0; i < 24; i++) {
            features[i][0] = i % 2 * 100;
            features[i][1] = 4 * i;
            for (int s = 0; s < 12; s++) {
                costs[s][i] = i < 10 ? 12 - s : s == 10 ? 1 : 50;
            }
        }
        RaceTuning x = told(features, new boolean[24], costs);
        dueStump(x, 1, 37, 11, 10, 24);
    }

    private static void stumpRefusals() {
        RaceTuning x = new RaceTuning();
        int[] outside = {-1, 5, Integer.MIN_VALUE, Integer.MAX_VALUE};
        for (int what : outside) {
            Check.due("stump(" + what + ")", x.stump(what), -2);
        }
        Check.due("stump without settings", x.stump(0), -3);
        x.setting();
        x.setting();
        dueStump(x, 0, 1, 0, 0, 0);
        x.instance(5, 5, false);
        Check.due("stump without a whole setting", x.stump(4), -3);
        x.cost(1, 0, 3);
        dueStump(x, 0, 1, 1, 1, 3);
    }

    /** Each way has a sum of its own. */
    private static void heldOutSums() {
        int[][] features = {{10, 50}, {20, 50}, {60, 50}, {70, 50}, {12, 50}, {100, 50}, {18, 50}};
        boolean[] held = {false, false, false, false, true, true, true};
        int[][] costs = {
            {1, 8, 9, 9, 100, 7, 300},
            {9, 2, 1, 1, 20, 4000, 50000},
            {5, 1, 5, 5, 6, 700000, 3},
        };
        RaceTuning x = told(features, held, costs);
        dueHeldOut(x, 100 + 4000 + 3, 20 + 4000 + 50000, 6 + 7 + 3, 20 + 4000 + 50000);
        RaceTuning y = told(new int[][] {{10, 0}, {90, 0}, {10, 0}, {11, 0}}, new boolean[] {false, false, true, true},
                new int[][] {{1, 9, 5, 70}, {9, 1, 600, 8000}});
        dueHeldOut(y, 75, 75, 75, 5 + 8000);
        dueStump(y, 0, 11, 0, 1, 2);
        dueStump(x, 0, 11, 0, 1, 5);
        duePortfolio(x, 13, 1);
    }

    /** What was found before must not stay when costs or instances come. */
    private static void heldOutAfterAChange() {
        RaceTuning x = told(new int[][] {{10, 0}, {90, 0}, {50, 0}}, new boolean[] {false, false, true},
                new int[][] {{4, 4, 100}, {5, 5, 20}});
        dueStump(x, 0, 1, 0, 0, 8);
        duePortfolio(x, 8, 0);
        x.instance(95, 0, false);
        x.cost(0, 3, 9);
        x.cost(1, 3, 2);
        dueHeldOut(x, 100, 20, 20, 100);
        duePortfolio(x, 12, 1);
        dueStump(x, 0, 91, 0, 1, 10);
    }

    private static void heldOutRefusals() {
        RaceTuning x = new RaceTuning();
        int[] outside = {-1, 4, Integer.MIN_VALUE, Integer.MAX_VALUE};
        for (int by : outside) {
            Check.due("heldOut(" + by + ")", x.heldOut(by), -2);
        }
        dueHeldOut(x, -3, -3, -3, -3);
        x.setting();
        dueHeldOut(x, 0, 0, 0, 0);
        x.instance(3, 3, false);
        dueHeldOut(x, -3, -3, -3, -3);
        x.cost(0, 0, 7);
        dueHeldOut(x, 0, 0, 0, 0);
    }

    private static void heldOutWithoutLearning() {
        RaceTuning x = told(new int[][] {{3, 3}, {0, 0}}, new boolean[] {true, true}, new int[][] {{7, 8}, {1, 2}});
        dueHeldOut(x, -3, 15, 3, 15);
        duePortfolio(x, 0, 0);
        duePortfolio(x, 0, 0, 1);
        dueStump(x, 0, 1, 0, 0, 0);
    }

    private static void greatestSums() {
        int[][] costs = new int[2][24];
        boolean[] held = new boolean[24];
        for (int i = 0; i < 24; i++) {
            costs[0][i] = -1;
            costs[1][i] = -1;
            held[i] = i >= 12;
        }
        RaceTuning x = told(new int[24][2], held, costs);
        duePortfolio(x, 24000000, 0);
        duePortfolio(x, 24000000, 0, 1);
        dueStump(x, 0, 1, 0, 0, 24000000);
        dueHeldOut(x, 24000000, 24000000, 24000000, 24000000);
    }
}
