/** Promise 16: stump. */
public final class StumpTest {
    private StumpTest() {
    }

    public static void main(String[] args) throws Exception {
        Check.all(StumpTest.class);
    }

    private static void dueStump(RaceTuning x, int feature, int cut, int below, int fromCut, int sum) {
        int[] want = {feature, cut, below, fromCut, sum};
        for (int what = 0; what < want.length; what++) {
            Check.due("stump(" + what + ")", x.stump(what), want[what]);
        }
    }

    private static RaceTuning learning(int[][] features, int[][] costs) {
        return Check.told(features, new boolean[features.length], costs);
    }

    @Says(promise = 16, value = "STUMP: what = 0 FEATURE, 1 CUT, 2 the SETTING below, 3 that from CUT on, 4 the sum.")
    static void stumps() {
        int[][] features = {{10, 90}, {20, 10}, {30, 80}, {40, 20}};
        dueStump(learning(features, new int[][] {{5, 1, 5, 1}, {1, 5, 1, 5}, {3, 3, 3, 3}}), 1, 21, 0, 1, 4);
        dueStump(learning(features, new int[][] {{5, 5, 1, 1}, {1, 1, 5, 5}, {0, 9, 9, 9}}), 0, 21, 1, 0, 4);
        dueStump(learning(features, new int[][] {{5, 5, 1, 1}, {2, 1, 5, 5}, {0, 9, 9, 9}}), 0, 21, 1, 0, 5);
    }

    @Says(promise = 16, value = "-2;")
    static void outsideItsBounds() {
        RaceTuning x = Check.raced(new int[1][1]);
        for (int what : new int[] {Integer.MIN_VALUE, -1, 5, 6, Integer.MAX_VALUE}) {
            Check.due("stump(" + what + ")", x.stump(what), -2);
        }
    }

    @Says(promise = 16, value = "-3 no WHOLE SETTING.")
    static void noWholeSetting() {
        RaceTuning x = new RaceTuning();
        dueStump(x, -3, -3, -3, -3, -3);
        x.instance(5, 5, false);
        dueStump(x, -3, -3, -3, -3, -3);
        x.setting();
        x.setting();
        dueStump(x, -3, -3, -3, -3, -3);
        x.cost(1, 0, 3);
        dueStump(x, 0, 1, 1, 1, 3);
        x.instance(5, 5, true);
        dueStump(x, -3, -3, -3, -3, -3);
    }

    @Says(promise = 0, value = "a SETTING for INSTANCES with less of the FEATURE than CUT, one for the others,")
    static void theCutItselfIsNotBelow() {
        dueStump(learning(new int[][] {{10, 10}, {30, 30}}, new int[][] {{1, 9}, {9, 1}}), 0, 11, 0, 1, 2);
        dueStump(learning(new int[][] {{10, 10}, {11, 11}}, new int[][] {{1, 9}, {9, 1}}), 0, 11, 0, 1, 2);
        dueStump(learning(new int[][] {{10, 10}, {11, 11}}, new int[][] {{9, 1}, {1, 9}}), 0, 11, 1, 0, 2);
    }

    @Says(promise = 0, value = "STUMP: a FEATURE (0, 1),")
    static void onlyTheSecondFeatureTellsThemApart() {
        dueStump(learning(new int[][] {{50, 10}, {50, 30}}, new int[][] {{1, 9}, {9, 1}}), 1, 11, 0, 1, 2);
    }

    @Says(promise = 0, value = "a CUT (1 to 100),")
    static void theLeastCut() {
        dueStump(learning(new int[][] {{0, 0}, {1, 1}}, new int[][] {{1, 9}, {9, 1}}), 0, 1, 0, 1, 2);
        dueStump(learning(new int[][] {{0, 0}, {100, 100}}, new int[][] {{1, 9}, {9, 1}}), 0, 1, 0, 1, 2);
    }

    @Says(promise = 0, value = "a CUT (1 to 100),")
    static void theGreatestCut() {
        dueStump(learning(new int[][] {{0, 99}, {0, 100}}, new int[][] {{1, 9}, {9, 1}}), 1, 100, 0, 1, 2);
        dueStump(learning(new int[][] {{99, 0}, {100, 0}}, new int[][] {{1, 9}, {9, 1}}), 0, 100, 0, 1, 2);
    }

    @Says(promise = 0, value = "a CUT (1 to 100),")
    static void noCutTellsLikeOnesApart() {
        int[][] costs = {{7, 9}, {9, 1}};
        dueStump(learning(new int[][] {{50, 100}, {50, 100}}, costs), 0, 1, 0, 1, 10);
        dueStump(learning(new int[][] {{100, 100}, {100, 100}}, costs), 0, 1, 0, 1, 10);
        dueStump(learning(new int[][] {{0, 0}, {0, 0}}, costs), 0, 1, 1, 0, 10);
    }

    @Says(promise = 0, value = "both WHOLE:")
    static void ofWholeOnesAlone() {
        RaceTuning x = Check.withSettings(3);
        x.instance(10, 10, false);
        x.instance(30, 30, false);
        x.cost(0, 0, 0);
        x.cost(1, 0, 5);
        x.cost(1, 1, 6);
        x.cost(2, 1, 0);
        dueStump(x, 0, 1, 1, 1, 11);
        x.cost(2, 0, 9);
        dueStump(x, 0, 11, 1, 2, 5);
        x.cost(0, 1, 9);
        dueStump(x, 0, 11, 0, 2, 0);
    }

    @Says(promise = 0, value = "that with the least sum of COSTS over LEARNING INSTANCES;")
    static void overLearningOnesAlone() {
        RaceTuning x = Check.told(new int[][] {{10, 10}, {30, 30}, {11, 0}}, new boolean[] {false, false, true},
                new int[][] {{1, 9, 9}, {9, 1, 9}, {9, 9, 0}});
        dueStump(x, 0, 11, 0, 1, 2);
    }

    @Says(promise = 0, value = "that with the least sum of COSTS over LEARNING INSTANCES;")
    static void overNoLearningOnes() {
        RaceTuning x = Check.told(new int[][] {{10, 10}, {30, 30}}, new boolean[] {true, true},
                new int[][] {{9, 9}, {1, 1}});
        dueStump(x, 0, 1, 0, 0, 0);
        dueStump(Check.withSettings(2), 0, 1, 0, 0, 0);
    }

    @Says(promise = 0, value = "that with the least sum of COSTS over LEARNING INSTANCES;")
    static void ofTwelveOnTwentyFour() {
        int[][] costs = new int[12][24];
        int[][] features = new int[24][2];
        for (int i = 0; i < 24; i++) {
            features[i][0] = i % 2 * 100;
            features[i][1] = 4 * i;
            for (int s = 0; s < 12; s++) {
                costs[s][i] = i < 10 ? 12 - s : s == 10 ? 1 : 50;
            }
        }
        dueStump(learning(features, costs), 1, 37, 11, 10, 24);
    }

    @Says(promise = 0, value = "of like ones the least FEATURE,")
    static void theLeastFeatureOfLikeOnes() {
        dueStump(learning(new int[][] {{80, 10}, {90, 30}}, new int[][] {{1, 9}, {9, 1}}), 0, 81, 0, 1, 2);
    }

    @Says(promise = 0, value = "then CUT,")
    static void theLeastCutOfLikeOnes() {
        dueStump(learning(new int[][] {{10, 10}, {90, 90}}, new int[][] {{1, 9}, {9, 1}}), 0, 11, 0, 1, 2);
        dueStump(learning(new int[][] {{10, 10}, {90, 90}}, new int[][] {{1, 9}, {9, 1}, {1, 1}}), 0, 1, 0, 2, 2);
    }

    @Says(promise = 0, value = "then the first SETTING, then the other.")
    static void theLeastSettingsOfLikeOnes() {
        int[][] features = {{0, 0}, {30, 30}};
        dueStump(learning(features, new int[][] {{9, 9}, {1, 9}, {1, 9}, {9, 1}, {9, 1}}), 0, 1, 1, 3, 2);
        dueStump(learning(features, new int[][] {{9, 9}, {1, 1}, {1, 1}}), 0, 1, 1, 1, 2);
        dueStump(learning(new int[][] {{10, 10}, {30, 30}}, new int[][] {{9, 9}, {1, 1}, {1, 1}}), 0, 1, 0, 1, 2);
    }

    @Says(promise = 0, value = "FAILED counts as 2000000.")
    static void theGreatestSum() {
        int[][] costs = new int[2][24];
        java.util.Arrays.fill(costs[0], -1);
        java.util.Arrays.fill(costs[1], -1);
        dueStump(Check.raced(costs), 0, 1, 0, 0, 48000000);
    }
}
