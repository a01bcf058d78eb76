/** Promise 15: pick. */
public final class PickTest {
    private PickTest() {
    }

    public static void main(String[] args) throws Exception {
        Check.all(PickTest.class);
    }

    /** Setting i has the least cost on instance i, so that a pick tells which instance was the nearest. */
    private static RaceTuning near(boolean[] heldOut, int[]... features) {
        int[][] costs = new int[features.length][features.length];
        for (int s = 0; s < costs.length; s++) {
            for (int i = 0; i < costs.length; i++) {
                costs[s][i] = s == i ? 0 : 9;
            }
        }
        return Check.told(features, heldOut, costs);
    }

    private static RaceTuning near(int[]... features) {
        return near(new boolean[features.length], features);
    }

    @Says(promise = 15, value = "PICK.")
    static void picks() {
        RaceTuning x = near(new int[][] {{90, 10}, {20, 80}, {95, 30}, {60, 60}});
        Check.due("0 has 140, 25, 80", x.pick(0), 2);
        Check.due("1 has 140, 125, 60", x.pick(1), 3);
        Check.due("2 has 25, 125, 65", x.pick(2), 0);
        Check.due("3 has 80, 60, 65", x.pick(3), 1);
    }

    @Says(promise = 15, value = "-1;")
    static void noSuchInstance() {
        RaceTuning x = near(new int[][] {{1, 1}, {2, 2}});
        for (int none : new int[] {Integer.MIN_VALUE, -2, -1, 2, 24, Integer.MAX_VALUE}) {
            Check.due("pick(" + none + ")", x.pick(none), -1);
        }
        Check.due("the last one", x.pick(1), 0);
    }

    @Says(promise = 15, value = "-3 there is no other LEARNING INSTANCE,")
    static void noOtherInstance() {
        RaceTuning x = near(new int[][] {{1, 1}});
        Check.due("the only one", x.pick(0), -3);
    }

    @Says(promise = 15, value = "-3 there is no other LEARNING INSTANCE,")
    static void noOtherLearningInstance() {
        RaceTuning x = near(new boolean[] {false, true, true}, new int[][] {{1, 1}, {1, 1}, {2, 2}});
        Check.due("the only learning one", x.pick(0), -3);
        Check.due("a held out one has it", x.pick(1), 0);
        Check.due("and so has the other one", x.pick(2), 0);
    }

    @Says(promise = 15, value = "-3 there is no other LEARNING INSTANCE,")
    static void noLearningInstanceAtAll() {
        RaceTuning x = near(new boolean[] {true, true}, new int[][] {{1, 1}, {1, 1}});
        Check.due("a held out one", x.pick(0), -3);
        Check.due("the other one", x.pick(1), -3);
    }

    @Says(promise = 15, value = "or no WHOLE SETTING.")
    static void noWholeSetting() {
        RaceTuning x = new RaceTuning();
        x.instance(1, 1, false);
        x.instance(2, 2, false);
        Check.due("no setting at all", x.pick(0), -3);
        x.setting();
        x.cost(0, 1, 5);
        Check.due("one that is told on the nearest alone", x.pick(0), -3);
        x.cost(0, 0, 5);
        Check.due("one that is whole", x.pick(0), 0);
        x.instance(3, 3, true);
        Check.due("whole no more", x.pick(0), -3);
    }

    @Says(promise = 0, value = "PICK for an INSTANCE: the nearest LEARNING INSTANCE, not itself")
    static void notItself() {
        RaceTuning x = near(new int[][] {{5, 5}, {100, 100}});
        Check.due("the other one, far as it is", x.pick(0), 1);
        Check.due("the other one, far as it is", x.pick(1), 0);
    }

    @Says(promise = 0, value = "the nearest LEARNING INSTANCE, not itself")
    static void anotherOneWithTheSameFeatures() {
        RaceTuning x = near(new int[][] {{5, 5}, {6, 5}, {5, 5}});
        Check.due("0 has 2 at no distance", x.pick(0), 2);
        Check.due("2 has 0 at no distance", x.pick(2), 0);
    }

    @Says(promise = 0, value = "the nearest LEARNING INSTANCE,")
    static void heldOutOnesAreNotNear() {
        RaceTuning x = near(new boolean[] {false, true, false}, new int[][] {{5, 5}, {6, 5}, {90, 90}});
        Check.due("a learning one", x.pick(0), 2);
        Check.due("a held out one", x.pick(1), 0);
    }

    @Says(promise = 0, value = "(both FEATURES' differences without sign together;")
    static void bothDifferencesTogether() {
        RaceTuning x = near(new int[][] {{50, 50}, {50, 61}, {44, 44}, {56, 55}});
        Check.due("11, 12, 11: of 1 and 3 the least number", x.pick(0), 1);
        RaceTuning y = near(new int[][] {{50, 50}, {40, 61}, {60, 40}, {39, 50}});
        Check.due("21, 20, 11", y.pick(0), 3);
        RaceTuning z = near(new int[][] {{50, 50}, {40, 60}, {58, 57}});
        Check.due("20 (not 0), 15", z.pick(0), 2);
    }

    @Says(promise = 0, value = "(both FEATURES' differences without sign together;")
    static void theGreatestDifferences() {
        RaceTuning x = near(new int[][] {{0, 0}, {100, 100}, {100, 99}});
        Check.due("200, 199", x.pick(0), 2);
        RaceTuning y = near(new int[][] {{100, 0}, {0, 100}});
        Check.due("200", y.pick(0), 1);
        Check.due("200", y.pick(1), 0);
    }

    @Says(promise = 0, value = "of like ones the least number),")
    static void theLeastNumberOfLikeNearOnes() {
        RaceTuning x = near(new int[][] {{12, 10}, {10, 8}, {10, 10}, {8, 10}});
        Check.due("2 has 2, 2, 2", x.pick(2), 0);
        Check.due("3 has 4, 4, 2", x.pick(3), 2);
        Check.due("0 has 4, 2, 4", x.pick(0), 2);
        RaceTuning y = near(new boolean[] {true, false, false}, new int[][] {{10, 10}, {12, 10}, {10, 8}});
        Check.due("a held out one", y.pick(0), 1);
    }

    @Says(promise = 0, value = "and of WHOLE SETTINGS the one with the least COST there, of like ones the least.")
    static void theLeastCostThere() {
        RaceTuning x = Check.told(new int[][] {{1, 1}, {2, 2}}, new boolean[2],
                new int[][] {{0, 5}, {9, 4}, {9, 4}, {0, 9}});
        Check.due("of 1 and 2 the least", x.pick(0), 1);
        Check.due("of 0 and 3 the least", x.pick(1), 0);
    }

    @Says(promise = 0, value = "and of WHOLE SETTINGS the one with the least COST there,")
    static void ofWholeOnesAlone() {
        RaceTuning x = Check.withSettings(2);
        x.instance(1, 1, false);
        x.instance(2, 2, false);
        x.cost(0, 1, 0);
        x.cost(1, 0, 5);
        x.cost(1, 1, 5);
        Check.due("0 is better there, but not whole", x.pick(0), 1);
        x.cost(0, 0, 9);
        Check.due("now it is", x.pick(0), 0);
    }

    @Says(promise = 0, value = "FAILED counts as 2000000.")
    static void failedOnesCanBePicked() {
        RaceTuning x = Check.raced(new int[][] {{-1, -1}, {-1, 1000000}, {-1, -1}});
        Check.due("1000000 is less", x.pick(0), 1);
        Check.due("all failed there", x.pick(1), 0);
    }
}
