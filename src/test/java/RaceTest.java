import java.util.Arrays;

/** Promise 6: how a race begins, what it goes over and who is in it. */
public final class RaceTest {
    private static final int LEAST = Integer.MIN_VALUE;
    private static final int MOST = Integer.MAX_VALUE;
    private static final int[] PLAIN = {0, 1, 1, 2, 1, 1000, 0};

    private RaceTest() {
    }

    public static void main(String[] args) throws Exception {
        Check.all(RaceTest.class);
    }

    private static int race(RaceTuning x, int... r) {
        return x.race(r[0], r[1], r[2], r[3], r[4], r[5], r[6]);
    }

    /** A plain race but for one of its arguments. */
    private static void dueWith(int place, int value, int want) {
        RaceTuning x = Check.withSettings(3);
        int[] changed = PLAIN.clone();
        changed[place] = value;
        Check.due("race" + Arrays.toString(changed), race(x, changed), want);
        Check.due("left behind race" + Arrays.toString(changed), x.left(-1), want == 3 ? 3 : -1);
    }

    private static void dueBounds(int place, int least, int most) {
        for (int outside : new int[] {LEAST, least - 1, most + 1, MOST}) {
            dueWith(place, outside, -2);
        }
        dueWith(place, least, 3);
        dueWith(place, most, 3);
    }

    private static void dueLevel(int up, int down, int want) {
        RaceTuning x = Check.withSettings(3);
        Check.due("level " + up + "/" + down, x.race(0, 1, up, down, 1, 1000, 0), want);
    }

    private static void dueOrder(RaceTuning x, int... want) {
        for (int r = 0; r < want.length; r++) {
            Check.due("the instance of round " + r, x.wants(1), want[r]);
            x.run();
            x.run();
        }
        Check.due("no instance more", x.raceOf(0), 2);
    }

    @Says(promise = 6, value = "A RACE begins, instead of the one before: how many SETTINGS are in it.")
    static void howManyAreInIt() {
        for (int count = 1; count <= 12; count++) {
            Check.due("race of " + count, race(Check.withSettings(count), PLAIN), count);
        }
    }

    @Says(promise = 6, value = "A RACE begins, instead of the one before:")
    static void insteadOfOneThatIsOver() {
        RaceTuning x = Check.raced(new int[][] {{1, 1, 1}, {2, 2, 2}, {3, 3, 3}});
        x.race(0, 1, 1, 1, 1, 1000, 0);
        Check.runAll(x, 3);
        Check.due("over", x.raceOf(0), 1);
        Check.due("the new one", x.race(1, 2, 1, 4, 1, 1000, 0), 3);
        dueAnew(x);
        Check.runAll(x, 6);
        Check.due("it goes by its own rules", x.dropped(2), 2);
    }

    @Says(promise = 6, value = "A RACE begins, instead of the one before:")
    static void insteadOfOneInTheMidstOfARound() {
        RaceTuning x = Check.raced(new int[][] {{1, 1, 1}, {2, 2, 2}, {3, 3, 3}});
        x.race(0, 24, 1, 1, 1, 1000, 0);
        Check.runAll(x, 5);
        Check.due("the new one", x.race(0, 1, 1, 1, 2, 1000, 0), 3);
        dueAnew(x);
        Check.due("wants the first setting anew", x.wants(0), 0);
        Check.runAll(x, 3);
        Check.due("it goes by its own rules", x.left(-1), 2);
    }

    private static void dueAnew(RaceTuning x) {
        for (int what = 0; what < 5; what++) {
            Check.due("raceOf(" + what + ") anew", x.raceOf(what), 0);
        }
        Check.due("all are left anew", x.left(-1), 3);
        for (int s = 0; s < 3; s++) {
            Check.due("dropped(" + s + ") anew", x.dropped(s), -3);
            Check.due("rank(" + s + ") anew", x.rank(s), 0);
            Check.due("a mean anew", Check.meanOf(x, s, 1, 0), RaceTuning.NOTHING);
        }
        Check.dueText("odds anew", Check.odds(x, 0, 1), "1/1");
    }

    @Says(promise = 6, value = "-2 KIND (0, 1),")
    static void kindHasBounds() {
        dueBounds(0, 0, 1);
    }

    @Says(promise = 6, value = "FIRST (1 to 24),")
    static void firstHasBounds() {
        dueBounds(1, 1, 24);
    }

    @Says(promise = 6, value = "up or down not 1 to 1000")
    static void upHasBounds() {
        for (int down : new int[] {1, 500, 1000}) {
            for (int outside : new int[] {LEAST, -1, 0, 1001, MOST}) {
                dueLevel(outside, down, -2);
            }
        }
        dueLevel(1, 1000, 3);
        dueLevel(1000, 1000, 3);
    }

    @Says(promise = 6, value = "up or down not 1 to 1000")
    static void downHasBounds() {
        for (int up : new int[] {1, 500, 1000}) {
            for (int outside : new int[] {LEAST, -1, 0, 1001, MOST}) {
                dueLevel(up, outside, -2);
            }
        }
        dueLevel(0, 0, -2);
        dueLevel(1001, 1001, -2);
        dueLevel(-1, -1, -2);
        dueLevel(1, 1, 3);
        dueLevel(500, 1000, 3);
    }

    @Says(promise = 6, value = "or up above down,")
    static void upIsNotAboveDown() {
        dueLevel(2, 1, -2);
        dueLevel(500, 499, -2);
        dueLevel(1000, 999, -2);
        dueLevel(1000, 1, -2);
        dueLevel(500, 500, 3);
        dueLevel(499, 500, 3);
        dueLevel(999, 1000, 3);
    }

    @Says(promise = 6, value = "LEAST (1 to 12),")
    static void leastHasBounds() {
        dueBounds(4, 1, 12);
    }

    @Says(promise = 6, value = "BUDGET (0 to 1000).")
    static void budgetHasBounds() {
        dueBounds(5, 0, 1000);
    }

    @Says(promise = 6, value = "-3 there is no SETTING.")
    static void noSettingNoRace() {
        RaceTuning x = new RaceTuning();
        Check.due("without anything", race(x, PLAIN), -3);
        x.instance(0, 0, false);
        Check.due("with an instance", race(x, PLAIN), -3);
        Check.due("no race began", x.left(-1), -1);
        x.setting();
        Check.due("with one setting", race(x, PLAIN), 1);
    }

    @Says(promise = 6, value = "A RACE begins,")
    static void anySeedWillDo() {
        for (int seed : new int[] {LEAST, -1, 0, 1, MOST}) {
            dueWith(6, seed, 3);
        }
    }

    @Says(promise = 0, value = "A RACE goes over the LEARNING INSTANCES in its ORDER: they stand by numbers,")
    static void orderOfNoInstance() {
        RaceTuning x = Check.withSettings(2);
        race(x, PLAIN);
        dueOrder(x);
        x.instance(0, 0, true);
        race(x, PLAIN);
        dueOrder(x);
    }

    @Says(promise = 0, value = "A RACE goes over the LEARNING INSTANCES in its ORDER: they stand by numbers,")
    static void orderOfOneInstance() {
        for (int seed : new int[] {LEAST, -1, 0, 1, 42, MOST}) {
            RaceTuning x = Check.raced(new int[2][1]);
            x.race(0, 24, 1, 2, 1, 1000, seed);
            dueOrder(x, 0);
        }
    }

    @Says(promise = 0, value = "A RACE goes over the LEARNING INSTANCES in its ORDER: they stand by numbers,")
    static void heldOutOnesAreNotInTheOrder() {
        boolean[] held = {true, false, true, false, true};
        RaceTuning x = Check.told(new int[5][2], held, new int[2][5]);
        x.race(0, 24, 1, 2, 1, 1000, 42);
        dueOrder(x, 1, 3);
        x.race(0, 24, 1, 2, 1, 1000, 0);
        dueOrder(x, 3, 1);
    }

    /**
     * Two instances by hand. Seed 0: x is 12345, >>> 16 is 0, modulo 2 is 0: they change places.
     * Seed 42: x is 3397979675, >>> 16 is 51849, modulo 2 is 1: the one at 1 changes places with itself.
     */
    @Says(promise = 0, value = "and the one at k changes places with that at (x >>> 16) modulo (k + 1).")
    static void orderOfTwoInstances() {
        RaceTuning x = Check.raced(new int[2][2]);
        x.race(0, 24, 1, 2, 1, 1000, 0);
        dueOrder(x, 1, 0);
        x.race(0, 24, 1, 2, 1, 1000, 42);
        dueOrder(x, 0, 1);
    }

    /**
     * Three instances by hand, with an x above 2^31 both times: from seed 42 x is 3397979675 (more than 32 bits
     * before), >>> 16 is 51849, modulo 3 is 0; then x is 3263785912, >>> 16 is 49801, modulo 2 is 1.
     */
    @Says(promise = 0, value = {"then, x being its seed, for k from their number less 1 down to 1,",
        "x becomes x * 1103515245 + 12345 (32 bits),"})
    static void orderOfThreeInstances() {
        RaceTuning x = Check.raced(new int[2][3]);
        x.race(0, 24, 1, 2, 1, 1000, 42);
        dueOrder(x, 2, 1, 0);
    }

    @Says(promise = 0, value = "x becomes x * 1103515245 + 12345 (32 bits),")
    static void orderOfTwentyFourInstances() {
        for (int seed : new int[] {LEAST, LEAST + 1, -65536, -1, 0, 1, 65536, 123456789, MOST - 1, MOST}) {
            RaceTuning x = Check.raced(new int[2][24]);
            x.race(1, 24, 1, 2, 1, 1000, seed);
            dueOrder(x, orderByLongs(24, seed));
        }
    }

    /** The 32 bits are cut out of 64, so that no sign can come in. */
    private static int[] orderByLongs(int count, int seed) {
        int[] row = new int[count];
        for (int i = 0; i < count; i++) {
            row[i] = i;
        }
        long x = seed & 0xFFFFFFFFL;
        for (int k = count - 1; k > 0; k--) {
            x = (x * 1103515245L + 12345L) & 0xFFFFFFFFL;
            int j = (int) ((x / 65536) % (k + 1));
            int moved = row[j];
            row[j] = row[k];
            row[k] = moved;
        }
        return row;
    }

    @Says(promise = 0, value = "A RACE goes over the LEARNING INSTANCES in its ORDER:")
    static void theOrderStaysWhenInstancesCome() {
        RaceTuning x = Check.raced(new int[2][2]);
        x.race(0, 24, 1, 2, 1, 1000, 0);
        x.instance(0, 0, false);
        x.instance(0, 0, true);
        dueOrder(x, 1, 0);
        x.instance(0, 0, false);
        Check.due("over stays over", x.raceOf(0), 2);
    }

    @Says(promise = 0, value = "All SETTINGS that there are then are in it.")
    static void settingsThatComeLaterAreNotInIt() {
        RaceTuning x = Check.raced(new int[][] {{1}, {1}});
        x.race(0, 1, 1, 2, 1, 1000, 9);
        Check.due("one that comes later", x.setting(), 2);
        x.cost(2, 0, 0);
        Check.due("how many are left", x.left(-1), 2);
        Check.due("left(2)", x.left(2), -1);
        Check.due("its rank", x.rank(2), -1);
        Check.due("where it dropped out", x.dropped(2), -1);
        Check.due("odds of it", x.odds(2, 0, 0), RaceTuning.NOTHING);
        Check.due("odds over it", x.odds(0, 2, 1), RaceTuning.NOTHING);
        Check.due("its mean", Check.meanOf(x, 2, 0, 0), RaceTuning.NOTHING);
        Check.runAll(x, 2);
        Check.due("the round is done without it", x.raceOf(1), 1);
        Check.due("a new race has it", x.race(0, 1, 1, 2, 1, 1000, 9), 3);
        Check.due("its rank in that", x.rank(2), 0);
    }

    @Says(promise = 0, value = "All SETTINGS that there are then are in it.")
    static void settingsWithoutCostsAreInIt() {
        RaceTuning x = Check.withSettings(12);
        Check.due("race", race(x, PLAIN), 12);
        for (int s = 0; s < 12; s++) {
            Check.due("left(" + s + ")", x.left(s), s);
        }
        Check.due("left(12)", x.left(12), -1);
    }
}
