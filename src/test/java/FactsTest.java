/** Promises 1 to 5: a new object, setting, instance, cost, costOf. */
public final class FactsTest {
    private FactsTest() {
    }

    public static void main(String[] args) {
        newObject();
        settings();
        instances();
        costs();
        refusalsInOrder();
        objectsAreApart();
        Check.end();
    }

    private static void newObject() {
        RaceTuning x = new RaceTuning();
        Check.due("costOf(0, 0) on a new object", x.costOf(0, 0), -1);
        Check.due("left(-1) on a new object", x.left(-1), -1);
        Check.due("raceOf(0) on a new object", x.raceOf(0), -3);
        Check.due("wants(0) on a new object", x.wants(0), -3);
        Check.due("run() on a new object", x.run(), -3);
        Check.due("rank(0) on a new object", x.rank(0), -1);
        Check.due("dropped(0) on a new object", x.dropped(0), -1);
        Check.due("odds(0, 0, 0) on a new object", x.odds(0, 0, 0), RaceTuning.NOTHING);
        Check.due("portfolio(1, -1) on a new object", x.portfolio(1, -1), -3);
        Check.due("pick(0) on a new object", x.pick(0), -1);
        Check.due("stump(4) on a new object", x.stump(4), -3);
        Check.due("heldOut(2) on a new object", x.heldOut(2), -3);
        Check.due("mean(0, 0, 0) on a new object", Check.meanOf(x, 0, 0, 0), RaceTuning.NOTHING);
        Check.due("NOTHING", RaceTuning.NOTHING, Long.MIN_VALUE);
        Check.due("the first setting", x.setting(), 0);
        Check.due("the first instance", x.instance(0, 0, false), 0);
    }

    private static void settings() {
        RaceTuning x = new RaceTuning();
        for (int s = 0; s < 12; s++) {
            Check.due("setting() number " + s, x.setting(), s);
        }
        Check.due("setting() without room", x.setting(), -4);
        Check.due("setting() without room again", x.setting(), -4);
        x.instance(0, 0, false);
        Check.due("cost of the last setting", x.cost(11, 0, 1), 1);
        Check.due("cost of the refused setting", x.cost(12, 0, 1), -1);
        Check.due("race of all", x.race(0, 1, 1, 1, 1, 1000, 0), 12);
    }

    private static void instances() {
        RaceTuning x = new RaceTuning();
        int[][] wrong = {{-1, 0}, {0, -1}, {101, 0}, {0, 101}, {Integer.MIN_VALUE, 0}, {0, Integer.MAX_VALUE}};
        for (int[] pair : wrong) {
            Check.due("instance(" + pair[0] + ", " + pair[1] + ")", x.instance(pair[0], pair[1], false), -2);
            Check.due("instance(" + pair[0] + ", " + pair[1] + ") held out", x.instance(pair[0], pair[1], true), -2);
        }
        for (int i = 0; i < 24; i++) {
            Check.due("instance number " + i, x.instance(i % 2 * 100, i / 2 % 2 * 100, i % 3 == 0), i);
        }
        Check.due("instance without room", x.instance(0, 0, false), -4);
        Check.due("instance held out without room", x.instance(0, 0, true), -4);
        Check.due("instance outside bounds comes before no room", x.instance(101, 0, false), -2);
        x.setting();
        Check.due("cost on the last instance", x.cost(0, 23, 1), 1);
        Check.due("cost on the refused instance", x.cost(0, 24, 1), -1);
    }

    private static void costs() {
        RaceTuning x = new RaceTuning();
        x.setting();
        x.setting();
        x.instance(1, 2, false);
        x.instance(3, 4, true);
        Check.due("costOf before it is told", x.costOf(0, 0), -3);
        Check.due("cost 0", x.cost(0, 0, 0), 1);
        Check.due("costOf 0", x.costOf(0, 0), 0);
        Check.due("cost 1000000", x.cost(0, 1, 1000000), 2);
        Check.due("costOf 1000000", x.costOf(0, 1), 1000000);
        Check.due("cost failed, counted by setting", x.cost(1, 1, -1), 1);
        Check.due("costOf failed", x.costOf(1, 1), 2000000);
        Check.due("costOf of the other one is untouched", x.costOf(1, 0), -3);
        Check.due("a failed cost is told once", x.cost(1, 1, 5), -3);
        Check.due("a cost of 0 is told once", x.cost(0, 0, 5), -3);
        Check.due("costOf after the refusal", x.costOf(0, 0), 0);
        Check.due("a refused cost is not counted", x.cost(1, 0, 7), 2);
    }

    private static void refusalsInOrder() {
        RaceTuning x = new RaceTuning();
        x.setting();
        x.instance(0, 0, false);
        x.cost(0, 0, 3);
        int[] none = {-1, 1, 12, 24, Integer.MIN_VALUE, Integer.MAX_VALUE};
        for (int n : none) {
            Check.due("cost(" + n + ", 0, -2)", x.cost(n, 0, -2), -1);
            Check.due("cost(0, " + n + ", -2)", x.cost(0, n, -2), -1);
            Check.due("costOf(" + n + ", 0)", x.costOf(n, 0), -1);
            Check.due("costOf(0, " + n + ")", x.costOf(0, n), -1);
        }
        int[] outside = {-2, 1000001, 2000000, Integer.MIN_VALUE, Integer.MAX_VALUE};
        for (int v : outside) {
            Check.due("cost(0, 0, " + v + ") of a told one", x.cost(0, 0, v), -2);
        }
        Check.due("costOf after all refusals", x.costOf(0, 0), 3);
    }

    private static void objectsAreApart() {
        RaceTuning x = new RaceTuning();
        RaceTuning y = new RaceTuning();
        x.setting();
        x.instance(0, 0, false);
        x.cost(0, 0, 3);
        x.race(0, 1, 1, 1, 1, 1, 1);
        Check.due("the other object's setting", y.setting(), 0);
        Check.due("the other object's instance", y.instance(0, 0, false), 0);
        Check.due("the other object's cost", y.costOf(0, 0), -3);
        Check.due("the other object's race", y.left(-1), -1);
    }
}
