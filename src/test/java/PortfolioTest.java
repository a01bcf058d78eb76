/** Promise 14: portfolio, and which settings are whole. */
public final class PortfolioTest {
    private static final int LEAST = Integer.MIN_VALUE;
    private static final int MOST = Integer.MAX_VALUE;

    private PortfolioTest() {
    }

    public static void main(String[] args) throws Exception {
        Check.all(PortfolioTest.class);
    }

    private static void duePortfolio(RaceTuning x, int sum, int... set) {
        Check.due("sum of " + set.length, x.portfolio(set.length, -1), sum);
        for (int i = 0; i < set.length; i++) {
            Check.due("place " + i + " of " + set.length, x.portfolio(set.length, i), set[i]);
        }
    }

    @Says(promise = 14, value = "PORTFOLIO of k: its sum (i = -1), its SETTING i.")
    static void sumAndSettings() {
        RaceTuning x = Check.raced(new int[][] {{0, 0, 9, 9}, {9, 9, 0, 1}, {4, 4, 4, 4}, {9, 9, 9, 0}});
        duePortfolio(x, 16, 2);
        duePortfolio(x, 1, 0, 1);
        duePortfolio(x, 0, 0, 1, 3);
        duePortfolio(x, 0, 0, 1, 2, 3);
    }

    @Says(promise = 14, value = "-1 no such place;")
    static void noSuchPlace() {
        RaceTuning x = Check.raced(new int[][] {{1}, {2}, {3}});
        for (int k = 1; k <= 3; k++) {
            for (int i : new int[] {LEAST, -3, -2, k, k + 1, 12, MOST}) {
                Check.due("portfolio(" + k + ", " + i + ")", x.portfolio(k, i), -1);
            }
            Check.due("the last place of " + k, x.portfolio(k, k - 1), k - 1);
        }
    }

    @Says(promise = 14, value = "-2 (first) k is below 1;")
    static void belowOne() {
        RaceTuning x = Check.raced(new int[][] {{1}, {2}});
        for (int k : new int[] {0, -1, LEAST}) {
            Check.due("portfolio(" + k + ", -1)", x.portfolio(k, -1), -2);
            Check.due("portfolio(" + k + ", 0)", x.portfolio(k, 0), -2);
        }
        duePortfolio(x, 1, 0);
    }

    @Says(promise = 14, value = "-2 (first) k is below 1;")
    static void belowOneIsFirst() {
        RaceTuning x = Check.raced(new int[][] {{1}, {2}});
        Check.due("and no such place", x.portfolio(0, -2), -2);
        Check.due("and no such place", x.portfolio(-1, MOST), -2);
        RaceTuning y = new RaceTuning();
        Check.due("and no whole setting", y.portfolio(0, -1), -2);
        Check.due("and all of them", y.portfolio(0, 5), -2);
    }

    @Says(promise = 14, value = "-3 (before -1) there are not so many WHOLE SETTINGS.")
    static void notSoManyWholeOnes() {
        for (int count = 1; count <= 12; count++) {
            RaceTuning x = Check.raced(new int[count][1]);
            Check.due(count + " of " + count, x.portfolio(count, -1), 0);
            Check.due(count + 1 + " of " + count, x.portfolio(count + 1, -1), -3);
            Check.due("most of " + count, x.portfolio(MOST, -1), -3);
        }
        Check.due("of no setting", new RaceTuning().portfolio(1, -1), -3);
    }

    @Says(promise = 14, value = "-3 (before -1) there are not so many WHOLE SETTINGS.")
    static void notSoManyIsBeforeNoSuchPlace() {
        RaceTuning x = Check.raced(new int[][] {{1}, {2}});
        for (int i : new int[] {LEAST, -2, 3, 12, MOST}) {
            Check.due("portfolio(3, " + i + ")", x.portfolio(3, i), -3);
            Check.due("portfolio(13, " + i + ")", x.portfolio(13, i), -3);
        }
        Check.due("of no setting", new RaceTuning().portfolio(1, 5), -3);
    }

    @Says(promise = 0, value = "WHOLE are SETTINGS whose COST is told on all INSTANCES.")
    static void wholeWithoutInstances() {
        RaceTuning x = Check.withSettings(3);
        duePortfolio(x, 0, 0);
        duePortfolio(x, 0, 0, 1, 2);
        x.instance(0, 0, true);
        Check.due("an instance comes", x.portfolio(1, -1), -3);
    }

    @Says(promise = 0, value = "WHOLE are SETTINGS whose COST is told on all INSTANCES.")
    static void wholeOnHeldOutOnesToo() {
        RaceTuning x = Check.withSettings(2);
        x.instance(0, 0, false);
        x.instance(0, 0, true);
        x.cost(0, 0, 1);
        x.cost(1, 0, 7);
        Check.due("told on the learning one", x.portfolio(1, -1), -3);
        x.cost(1, 1, 7);
        duePortfolio(x, 7, 1);
        Check.due("both", x.portfolio(2, -1), -3);
        x.cost(0, 1, 900);
        duePortfolio(x, 1, 0, 1);
        duePortfolio(x, 1, 0);
    }

    @Says(promise = 0, value = "WHOLE are SETTINGS whose COST is told on all INSTANCES.")
    static void wholeNoMoreWhenAnInstanceComes() {
        RaceTuning x = Check.raced(new int[][] {{1, 2}, {3, 4}});
        duePortfolio(x, 3, 0);
        x.instance(0, 0, false);
        Check.due("no one is whole", x.portfolio(1, -1), -3);
        x.cost(1, 2, 5);
        duePortfolio(x, 12, 1);
    }

    @Says(promise = 0, value = "WHOLE are SETTINGS whose COST is told on all INSTANCES.")
    static void wholeWithAFailedCost() {
        duePortfolio(Check.raced(new int[][] {{-1, 0}, {-1, -1}}), 2000000, 0, 1);
    }

    @Says(promise = 0, value = "A PORTFOLIO of k: of all sets of k WHOLE SETTINGS the one with the least sum, "
        + "over LEARNING INSTANCES, of the least COST in the set;")
    static void overLearningOnesAlone() {
        RaceTuning x = Check.told(new int[3][2], new boolean[] {false, true, false},
                new int[][] {{5, 0, 5}, {4, 900000, 5}, {9, 0, 0}});
        duePortfolio(x, 9, 1);
        duePortfolio(x, 4, 1, 2);
    }

    @Says(promise = 0, value = "over LEARNING INSTANCES,")
    static void overNoLearningOnes() {
        RaceTuning x = Check.told(new int[2][2], new boolean[] {true, true}, new int[][] {{9, 9}, {1, 1}, {5, 5}});
        duePortfolio(x, 0, 0);
        duePortfolio(x, 0, 0, 1);
        duePortfolio(x, 0, 0, 1, 2);
    }

    @Says(promise = 0, value = "of all sets of k WHOLE SETTINGS the one with the least sum,")
    static void ofTwelveOnTwentyFour() {
        int[][] costs = new int[12][24];
        int[][] turned = new int[12][24];
        for (int s = 0; s < 12; s++) {
            for (int i = 0; i < 24; i++) {
                costs[s][i] = i % 12 == 11 - s ? s : 100;
                turned[11 - s][i] = costs[s][i];
            }
        }
        RaceTuning x = Check.raced(costs);
        duePortfolio(x, 2 * 15 + 12 * 100, 0, 1, 2, 3, 4, 5);
        duePortfolio(x, 2 * 66, 0, 1, 2, 3, 4, 5, 6, 7, 8, 9, 10, 11);
        RaceTuning y = Check.raced(turned);
        duePortfolio(y, 2 * 15 + 12 * 100, 6, 7, 8, 9, 10, 11);
        duePortfolio(y, 2 * 55 + 2 * 100, 1, 2, 3, 4, 5, 6, 7, 8, 9, 10, 11);
    }

    @Says(promise = 0, value = "of like ones that with the lesser number where two, by rising numbers, differ first.")
    static void ofLikeSets() {
        RaceTuning x = Check.raced(new int[][] {{5, 5}, {0, 9}, {9, 0}, {0, 9}, {9, 0}});
        duePortfolio(x, 9, 1);
        duePortfolio(x, 0, 1, 2);
        duePortfolio(x, 0, 0, 1, 2);
        RaceTuning y = Check.raced(new int[][] {{9, 0}, {5, 5}, {5, 5}, {0, 9}, {0, 9}});
        duePortfolio(y, 0, 0, 3);
        duePortfolio(y, 0, 0, 1, 3);
    }

    @Says(promise = 0, value = "of like ones that with the lesser number where two, by rising numbers, differ first.")
    static void ofSetsThatAreAllAlike() {
        RaceTuning x = Check.raced(new int[12][1]);
        duePortfolio(x, 0, 0);
        duePortfolio(x, 0, 0, 1, 2, 3, 4, 5);
        duePortfolio(x, 0, 0, 1, 2, 3, 4, 5, 6, 7, 8, 9, 10);
    }

    @Says(promise = 0, value = "FAILED counts as 2000000.")
    static void theGreatestSum() {
        int[][] costs = new int[2][24];
        java.util.Arrays.fill(costs[0], -1);
        java.util.Arrays.fill(costs[1], -1);
        RaceTuning x = Check.raced(costs);
        duePortfolio(x, 48000000, 0);
        duePortfolio(x, 48000000, 0, 1);
    }
}
