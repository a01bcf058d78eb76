/** Promise 17: heldOut. */
public final class HeldOutTest {
    private HeldOutTest() {
    }

    public static void main(String[] args) throws Exception {
        Check.all(HeldOutTest.class);
    }

    private static void dueHeldOut(RaceTuning x, int... sums) {
        for (int by = 0; by < sums.length; by++) {
            Check.due("heldOut(" + by + ")", x.heldOut(by), sums[by]);
        }
    }

    private static RaceTuning fourOfEight() {
        int[][] features = {{10, 50}, {20, 50}, {60, 50}, {70, 50}, {12, 50}, {100, 50}, {18, 50}, {5, 50}};
        boolean[] held = {false, false, false, false, true, true, true, true};
        int[][] costs = {
            {1, 8, 9, 9, 100, 7, 300, 1000},
            {9, 2, 1, 1, 20, 4000, 50000, 2000},
            {5, 1, 5, 5, 6, 700000, 3, 4},
        };
        return Check.told(features, held, costs);
    }

    /** Each way takes another setting on one instance at least, and so has a sum of its own. */
    @Says(promise = 17, value = "The sum over HELD OUT INSTANCES of the COST by: 0 PICK, 1 SINGLE, "
        + "2 the least of WHOLE ones on each, 3 STUMP.")
    static void eachWayHasItsSum() {
        RaceTuning x = fourOfEight();
        Check.due("the cut", x.stump(1), 11);
        Check.due("the setting below", x.stump(2), 0);
        Check.due("that from the cut on", x.stump(3), 1);
        Check.due("the single one", x.portfolio(1, 0), 1);
        dueHeldOut(x, 100 + 4000 + 3 + 1000, 20 + 4000 + 50000 + 2000, 6 + 7 + 3 + 4, 20 + 4000 + 50000 + 1000);
    }

    /** No way lives on what another call found. Behind the change 2 is the single one, and the cut is 21. */
    @Says(promise = 17, value = "The sum over HELD OUT INSTANCES of the COST by: 0 PICK, 1 SINGLE, "
        + "2 the least of WHOLE ones on each, 3 STUMP.")
    static void eachWayByItself() {
        int[] sums = {5103, 56020, 20, 55020};
        int[] later = {100 + 4000 + 3 + 4, 6 + 700000 + 3 + 4, 20, 6 + 4000 + 3 + 4};
        for (int by = 0; by < 4; by++) {
            RaceTuning x = fourOfEight();
            Check.due("heldOut(" + by + ") alone", x.heldOut(by), sums[by]);
            x.instance(4, 50, false);
            x.cost(0, 8, 50);
            x.cost(1, 8, 60);
            x.cost(2, 8, 1);
            Check.due("heldOut(" + by + ") behind a change", x.heldOut(by), later[by]);
        }
    }

    @Says(promise = 17, value = "3 STUMP.")
    static void aHeldOutOneAtTheCutIsNotBelow() {
        RaceTuning x = Check.told(new int[][] {{10, 0}, {90, 0}, {10, 0}, {11, 0}},
                new boolean[] {false, false, true, true}, new int[][] {{1, 9, 5, 70}, {9, 1, 600, 8000}});
        Check.due("the cut", x.stump(1), 11);
        dueHeldOut(x, 75, 75, 75, 5 + 8000);
    }

    @Says(promise = 0, value = "SINGLE is the PORTFOLIO of 1.")
    static void singleOfLikeOnes() {
        RaceTuning x = Check.told(new int[2][2], new boolean[] {false, true}, new int[][] {{7, 0}, {5, 30}, {5, 200}});
        Check.due("the portfolio of 1", x.portfolio(1, 0), 1);
        Check.due("its cost", x.heldOut(1), 30);
    }

    @Says(promise = 17, value = "The sum over HELD OUT INSTANCES")
    static void noHeldOutInstance() {
        dueHeldOut(Check.raced(new int[][] {{1, 2}, {3, 4}}), 0, 0, 0, 0);
        dueHeldOut(Check.withSettings(1), 0, 0, 0, 0);
        dueHeldOut(Check.raced(new int[][] {{7}}), 0, 0, 0, 0);
    }

    @Says(promise = 17, value = "-2;")
    static void outsideItsBounds() {
        RaceTuning x = Check.raced(new int[1][1]);
        for (int by : new int[] {Integer.MIN_VALUE, -1, 4, 5, Integer.MAX_VALUE}) {
            Check.due("heldOut(" + by + ")", x.heldOut(by), -2);
        }
    }

    @Says(promise = 17, value = "-3 no WHOLE SETTING,")
    static void noWholeSetting() {
        RaceTuning x = new RaceTuning();
        dueHeldOut(x, -3, -3, -3, -3);
        x.setting();
        x.instance(3, 3, false);
        dueHeldOut(x, -3, -3, -3, -3);
        x.cost(0, 0, 7);
        dueHeldOut(x, 0, 0, 0, 0);
        x.instance(3, 3, true);
        dueHeldOut(x, -3, -3, -3, -3);
        x.cost(0, 1, 9);
        dueHeldOut(x, 9, 9, 9, 9);
    }

    @Says(promise = 17, value = "or (0) a PICK is none.")
    static void aPickIsNone() {
        RaceTuning x = Check.told(new int[][] {{3, 3}, {0, 0}}, new boolean[] {true, true},
                new int[][] {{7, 8}, {1, 2}});
        Check.due("a pick", x.pick(0), -3);
        dueHeldOut(x, -3, 15, 3, 15);
    }

    @Says(promise = 17, value = "2 the least of WHOLE ones on each,")
    static void ofWholeOnesAlone() {
        RaceTuning x = Check.withSettings(2);
        x.instance(0, 0, false);
        x.instance(0, 0, true);
        x.cost(0, 1, 0);
        x.cost(1, 0, 5);
        x.cost(1, 1, 6);
        dueHeldOut(x, 6, 6, 6, 6);
        x.cost(0, 0, 4);
        dueHeldOut(x, 0, 0, 0, 0);
    }

    /** What was found before must not stay when costs or instances come. */
    @Says(promise = 17, value = "The sum over HELD OUT INSTANCES of the COST by:")
    static void theChoiceIsMadeAnew() {
        RaceTuning x = Check.told(new int[][] {{10, 0}, {90, 0}, {50, 0}}, new boolean[] {false, false, true},
                new int[][] {{4, 4, 100}, {5, 5, 20}});
        dueHeldOut(x, 100, 100, 20, 100);
        x.instance(95, 0, false);
        x.cost(0, 3, 9);
        x.cost(1, 3, 2);
        dueHeldOut(x, 100, 20, 20, 100);
        x.instance(92, 0, true);
        x.cost(0, 4, 1);
        x.cost(1, 4, 3000);
        dueHeldOut(x, 101, 3020, 21, 3100);
    }

    @Says(promise = 0, value = "FAILED counts as 2000000.")
    static void theGreatestSums() {
        int[][] costs = new int[2][24];
        boolean[] held = new boolean[24];
        for (int i = 0; i < 24; i++) {
            costs[0][i] = -1;
            costs[1][i] = -1;
            held[i] = i > 0;
        }
        dueHeldOut(Check.told(new int[24][2], held, costs), 46000000, 46000000, 46000000, 46000000);
    }
}
