/** Promises 1 to 5: a new object, setting, instance, cost, costOf. */
public final class FactsTest {
    private static final int LEAST = Integer.MIN_VALUE;
    private static final int MOST = Integer.MAX_VALUE;

    private FactsTest() {
    }

    public static void main(String[] args) throws Exception {
        Check.all(FactsTest.class);
    }

    @Says(promise = 1, value = "No SETTINGS, no INSTANCES, no RACE.")
    static void newObjectHasNoSettings() {
        RaceTuning x = new RaceTuning();
        x.instance(0, 0, false);
        Check.due("cost of setting 0", x.cost(0, 0, 1), -1);
        Check.due("costOf of setting 0", x.costOf(0, 0), -1);
        Check.due("race", x.race(0, 1, 1, 1, 1, 0, 0), -3);
        Check.due("portfolio", x.portfolio(1, -1), -3);
        Check.due("stump", x.stump(4), -3);
        Check.due("heldOut", x.heldOut(2), -3);
        Check.due("the first setting", x.setting(), 0);
    }

    @Says(promise = 1, value = "No SETTINGS, no INSTANCES, no RACE.")
    static void newObjectHasNoInstances() {
        RaceTuning x = new RaceTuning();
        Check.due("pick", x.pick(0), -1);
        x.setting();
        Check.due("cost on instance 0", x.cost(0, 0, 1), -1);
        Check.due("costOf on instance 0", x.costOf(0, 0), -1);
        Check.due("the sum over no instances", x.portfolio(1, -1), 0);
        Check.due("the first instance", x.instance(0, 0, false), 0);
    }

    @Says(promise = 1, value = "No SETTINGS, no INSTANCES, no RACE.")
    static void newObjectHasNoRace() {
        RaceTuning x = Check.withSettings(2);
        Check.due("wants", x.wants(0), -3);
        Check.due("run", x.run(), -3);
        Check.due("left", x.left(-1), -1);
        Check.due("raceOf", x.raceOf(0), -3);
        Check.due("rank", x.rank(0), -1);
        Check.due("dropped", x.dropped(0), -1);
        Check.due("odds", x.odds(0, 1, 0), RaceTuning.NOTHING);
        Check.due("mean", Check.meanOf(x, 0, 0, 0), RaceTuning.NOTHING);
    }

    @Says(promise = 1, value = "No SETTINGS, no INSTANCES, no RACE.")
    static void newObjectIsApartFromOthers() {
        RaceTuning x = Check.raced(new int[][] {{3}, {4}});
        x.race(0, 1, 1, 1, 1, 2, 1);
        x.run();
        RaceTuning y = new RaceTuning();
        Check.due("its first setting", y.setting(), 0);
        Check.due("its first instance", y.instance(0, 0, false), 0);
        Check.due("its cost", y.costOf(0, 0), -3);
        Check.due("its race", y.left(-1), -1);
        Check.due("the other one's settings", x.setting(), 2);
        Check.due("the other one's race", x.raceOf(2), 1);
    }

    @Says(promise = 2, value = "A SETTING more: its number.")
    static void settingsByNumbers() {
        RaceTuning x = new RaceTuning();
        for (int s = 0; s < 12; s++) {
            Check.due("setting number " + s, x.setting(), s);
        }
    }

    @Says(promise = 2, value = "-4.")
    static void noRoomForTheThirteenthSetting() {
        RaceTuning x = Check.withSettings(12);
        Check.due("the thirteenth", x.setting(), -4);
        Check.due("once more", x.setting(), -4);
        Check.due("how many race", x.race(0, 1, 1, 1, 1, 0, 0), 12);
    }

    @Says(promise = 2, value = "-4.")
    static void roomForTheTwelfthSetting() {
        RaceTuning x = Check.withSettings(11);
        Check.due("the twelfth", x.setting(), 11);
        Check.due("how many race", x.race(0, 1, 1, 1, 1, 0, 0), 12);
    }

    @Says(promise = 0, value = "SETTINGS are 0 .. S - 1 (12 at most),")
    static void settingsThatThereAre() {
        RaceTuning x = new RaceTuning();
        x.instance(0, 0, false);
        for (int s = 0; s < 12; s++) {
            Check.due("cost of " + s + " before it is there", x.cost(s, 0, 1), -1);
            x.setting();
            Check.due("cost of " + s, x.cost(s, 0, 1), 1);
        }
        Check.due("refused", x.setting(), -4);
        Check.due("cost of 12", x.cost(12, 0, 1), -1);
        Check.due("cost of -1", x.cost(-1, 0, 1), -1);
    }

    @Says(promise = 3, value = "An INSTANCE more: its number.")
    static void instancesByNumbers() {
        RaceTuning x = new RaceTuning();
        for (int i = 0; i < 24; i++) {
            Check.due("instance number " + i, x.instance(i, 100 - i, i % 3 == 0), i);
        }
    }

    @Says(promise = 3, value = "-4.")
    static void noRoomForTheTwentyFifthInstance() {
        RaceTuning x = new RaceTuning();
        for (int i = 0; i < 24; i++) {
            x.instance(0, 0, i % 2 == 0);
        }
        Check.due("a learning one", x.instance(0, 0, false), -4);
        Check.due("a held out one", x.instance(0, 0, true), -4);
        x.setting();
        Check.due("cost on 24", x.cost(0, 24, 1), -1);
    }

    @Says(promise = 3, value = "-4.")
    static void roomForTheTwentyFourthInstance() {
        RaceTuning x = new RaceTuning();
        for (int i = 0; i < 23; i++) {
            x.instance(0, 0, false);
        }
        Check.due("the twenty-fourth", x.instance(0, 0, true), 23);
        x.setting();
        Check.due("cost on 23", x.cost(0, 23, 1), 1);
    }

    @Says(promise = 0, value = "INSTANCES 0 .. I - 1 (24 at most),")
    static void instancesThatThereAre() {
        RaceTuning x = Check.withSettings(1);
        for (int i = 0; i < 24; i++) {
            Check.due("cost on " + i + " before it is there", x.cost(0, i, 1), -1);
            x.instance(0, 0, false);
            Check.due("cost on " + i, x.cost(0, i, 1), i + 1);
        }
        Check.due("cost on 24", x.cost(0, 24, 1), -1);
        Check.due("cost on -1", x.cost(0, -1, 1), -1);
    }

    @Says(promise = 3, value = "-2 FEATURES;")
    static void featuresBelowTheirBounds() {
        RaceTuning x = new RaceTuning();
        for (int below : new int[] {-1, -2, -100, LEAST}) {
            Check.due("f = " + below, x.instance(below, 50, false), -2);
            Check.due("g = " + below, x.instance(50, below, false), -2);
            Check.due("both, held out", x.instance(below, below, true), -2);
        }
        Check.due("none of them was made", x.instance(0, 0, false), 0);
    }

    @Says(promise = 3, value = "-2 FEATURES;")
    static void featuresAboveTheirBounds() {
        RaceTuning x = new RaceTuning();
        for (int above : new int[] {101, 102, 1000, MOST}) {
            Check.due("f = " + above, x.instance(above, 50, false), -2);
            Check.due("g = " + above, x.instance(50, above, false), -2);
            Check.due("both, held out", x.instance(above, above, true), -2);
        }
        Check.due("none of them was made", x.instance(0, 0, false), 0);
    }

    @Says(promise = 0, value = "each with two FEATURES (0 to 100),")
    static void featuresAtTheirBounds() {
        int[][] corners = {{0, 0}, {0, 100}, {100, 0}, {100, 100}};
        RaceTuning x = new RaceTuning();
        for (int i = 0; i < corners.length; i++) {
            Check.due("corner " + i, x.instance(corners[i][0], corners[i][1], false), i);
        }
    }

    @Says(promise = 0, value = "LEARNING or HELD OUT.")
    static void learningOrHeldOut() {
        RaceTuning x = Check.withSettings(2);
        x.instance(0, 0, true);
        Check.due("no learning one for another", x.pick(0), -3);
        x.race(0, 1, 1, 1, 1, 1000, 0);
        Check.due("no instance for a race", x.raceOf(0), 2);
        x.instance(0, 0, false);
        x.race(0, 1, 1, 1, 1, 1000, 0);
        Check.due("the learning one races", x.wants(1), 1);
    }

    @Says(promise = 4, value = "A COST is told (-1: FAILED): how many are told of this SETTING.")
    static void howManyCostsAreTold() {
        RaceTuning x = Check.withSettings(2);
        x.instance(0, 0, false);
        x.instance(0, 0, true);
        x.instance(0, 0, false);
        Check.due("the first of 0", x.cost(0, 2, 7), 1);
        Check.due("the first of 1", x.cost(1, 0, -1), 1);
        Check.due("the second of 0", x.cost(0, 0, -1), 2);
        Check.due("the third of 0", x.cost(0, 1, 0), 3);
        Check.due("the second of 1", x.cost(1, 1, 7), 2);
    }

    @Says(promise = 4, value = "-1;")
    static void costOfNoSettingOrInstance() {
        RaceTuning x = Check.withSettings(2);
        x.instance(0, 0, false);
        x.instance(0, 0, false);
        x.instance(0, 0, false);
        for (int none : new int[] {-1, 2, 12, LEAST, MOST}) {
            Check.due("setting " + none, x.cost(none, 0, 1), -1);
        }
        for (int none : new int[] {-1, 3, 24, LEAST, MOST}) {
            Check.due("instance " + none, x.cost(0, none, 1), -1);
        }
        Check.due("nothing was counted", x.cost(0, 0, 1), 1);
    }

    @Says(promise = 4, value = "-2;")
    static void costOutsideItsBounds() {
        RaceTuning x = Check.withSettings(1);
        x.instance(0, 0, false);
        for (int outside : new int[] {-2, -3, LEAST, 1000001, 2000000, MOST}) {
            Check.due("cost " + outside, x.cost(0, 0, outside), -2);
            Check.due("it is not told", x.costOf(0, 0), -3);
        }
        Check.due("nothing was counted", x.cost(0, 0, 1), 1);
    }

    @Says(promise = 0, value = "The COST of a SETTING on an INSTANCE is told once: 0 to 1000000;")
    static void costAtItsBounds() {
        RaceTuning x = Check.withSettings(1);
        x.instance(0, 0, false);
        x.instance(0, 0, false);
        Check.due("the least", x.cost(0, 0, 0), 1);
        Check.due("the greatest", x.cost(0, 1, 1000000), 2);
        Check.due("the least again", x.costOf(0, 0), 0);
        Check.due("the greatest again", x.costOf(0, 1), 1000000);
    }

    @Says(promise = 4, value = "-3 it was told.")
    static void costIsToldOnce() {
        for (int v : new int[] {0, 5, 1000000, -1}) {
            RaceTuning x = Check.withSettings(1);
            x.instance(0, 0, false);
            x.instance(0, 0, false);
            x.cost(0, 0, v);
            for (int again : new int[] {0, 5, 9, -1}) {
                Check.due("cost " + v + ", then " + again, x.cost(0, 0, again), -3);
            }
            Check.due("it stays as told", x.costOf(0, 0), v == -1 ? 2000000 : v);
            Check.due("it is counted once", x.cost(0, 1, v), 2);
        }
    }

    @Says(promise = 5, value = "COST;")
    static void costAsTold() {
        RaceTuning x = Check.raced(new int[][] {{1, 22, 333}, {4444, 55555, 666666}});
        int[][] want = {{1, 22, 333}, {4444, 55555, 666666}};
        for (int s = 0; s < 2; s++) {
            for (int i = 0; i < 3; i++) {
                Check.due("costOf(" + s + ", " + i + ")", x.costOf(s, i), want[s][i]);
            }
        }
    }

    @Says(promise = 5, value = "-3 it is not told (2000000: FAILED).")
    static void costThatIsNotTold() {
        RaceTuning x = Check.withSettings(2);
        x.instance(0, 0, false);
        x.instance(0, 0, false);
        x.cost(0, 1, 3);
        Check.due("the other instance", x.costOf(0, 0), -3);
        Check.due("the other setting", x.costOf(1, 1), -3);
        Check.due("the one that is told", x.costOf(0, 1), 3);
    }

    @Says(promise = 5, value = "(2000000: FAILED).")
    static void costThatFailed() {
        RaceTuning x = Check.withSettings(1);
        x.instance(0, 0, false);
        x.cost(0, 0, -1);
        Check.due("failed", x.costOf(0, 0), 2000000);
    }

    @Says(promise = 5, value = "-1.")
    static void costOfWhatIsNotThere() {
        RaceTuning x = Check.raced(new int[2][3]);
        for (int none : new int[] {-1, 2, 12, LEAST, MOST}) {
            Check.due("setting " + none, x.costOf(none, 0), -1);
        }
        for (int none : new int[] {-1, 3, 24, LEAST, MOST}) {
            Check.due("instance " + none, x.costOf(0, none), -1);
        }
    }
}
