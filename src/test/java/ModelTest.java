import java.util.Random;

/** Promises 1 to 18 on many runs of calls, held against the document's words in Reference; the same runs each time. */
public final class ModelTest {
    private static final int RUNS = 400;
    private static final int[] STRANGE = {
        Integer.MIN_VALUE, Integer.MIN_VALUE + 1, -1000, -4, -3, -2, -1, 0, 1, 2, 3, 4, 5, 11, 12, 13, 23, 24, 25,
        99, 100, 101, 1000, 1001, 1000000, 1000001, 2000000, Integer.MAX_VALUE - 1, Integer.MAX_VALUE
    };

    private final Random dice;
    private final int seed;
    private final RaceTuning got = new RaceTuning();
    private final Reference want = new Reference();
    private int calls = 0;
    private int span;
    private int featureSpan;

    private ModelTest(int seed) {
        this.seed = seed;
        dice = new Random(seed);
    }

    public static void main(String[] args) {
        for (int seed = 0; seed < RUNS && Check.wrongOnes() < 20; seed++) {
            new ModelTest(seed).walk();
        }
        Check.end();
    }

    private void walk() {
        int[] spans = {1, 3, 10, 1000, 1000000};
        int[] featureSpans = {1, 4, 20, 100};
        span = spans[dice.nextInt(spans.length)];
        featureSpan = featureSpans[dice.nextInt(featureSpans.length)];
        boolean large = seed % 10 == 0;
        fill(dice.nextInt(large ? 13 : 7), dice.nextInt(large ? 25 : 11));
        while (calls < 512 && Check.wrongOnes() < 20) {
            one(large);
        }
    }

    private void fill(int settings, int instances) {
        int heldOneIn = 2 + dice.nextInt(8);
        for (int s = 0; s < settings; s++) {
            setting();
        }
        for (int i = 0; i < instances; i++) {
            instance(dice.nextInt(featureSpan + 1), dice.nextInt(featureSpan + 1), dice.nextInt(heldOneIn) == 0);
        }
        int missing = dice.nextInt(4) == 0 ? 10 : 400;
        for (int s = 0; s < settings; s++) {
            for (int i = 0; i < instances; i++) {
                if (dice.nextInt(missing) != 0) {
                    cost(s, i, someCost(s));
                }
            }
        }
    }

    /** Settings with a lower number are often better, so that some drop out. */
    private int someCost(int s) {
        if (dice.nextInt(12) == 0) {
            return -1;
        }
        return Math.min(1000000, dice.nextInt(span + 1) + (dice.nextInt(3) == 0 ? 0 : s * span / 4));
    }

    private int number(int below) {
        return dice.nextInt(25) == 0 ? STRANGE[dice.nextInt(STRANGE.length)] : dice.nextInt(below);
    }

    private void one(boolean large) {
        int kind = dice.nextInt(60);
        if (kind < 26) {
            aboutRace();
        } else if (kind < 28) {
            race();
        } else if (kind < 30) {
            wholeRace();
        } else if (kind < 31 && !large) {
            setting();
        } else if (kind < 32 && !large) {
            instance(number(101), number(101), dice.nextBoolean());
        } else if (kind < 36) {
            cost(number(12), number(24), dice.nextInt(30) == 0 ? number(9) : someCost(1));
        } else if (kind < 38) {
            int s = number(12);
            int i = number(24);
            due("costOf(" + s + ", " + i + ")", got.costOf(s, i), want.costOf(s, i));
        } else if (kind < 54) {
            watchRace();
        } else if (!large || dice.nextInt(6) == 0) {
            choose();
        }
    }

    private void aboutRace() {
        int what = number(2);
        due("wants(" + what + ")", got.wants(what), want.wants(what));
        due("run()", got.run(), want.run());
    }

    /** To its end, or to a cost that is not told, and then what came of it. */
    private void wholeRace() {
        race();
        long last = 0;
        while (last >= 0 && calls < 480) {
            last = got.run();
            due("run()", last, want.run());
        }
        for (int k = 0; k < 12; k++) {
            watchRace();
        }
    }

    private void race() {
        int kind = number(2);
        int first = number(20) == 0 ? number(26) : 1 + dice.nextInt(4);
        int down = number(20) == 0 ? number(1002) : 1 + dice.nextInt(40);
        int up = number(20) == 0 ? number(1002) : 1 + dice.nextInt(Math.max(1, Math.min(1000, down / 4)));
        int least = number(5) == 0 ? number(14) : 1 + dice.nextInt(2);
        int budget = number(3) == 0 ? number(40) : 100 + dice.nextInt(901);
        int seed = dice.nextInt();
        due("race(" + kind + ", " + first + ", " + up + ", " + down + ", " + least + ", " + budget + ", " + seed + ")",
                got.race(kind, first, up, down, least, budget, seed),
                want.race(kind, first, up, down, least, budget, seed));
    }

    private void watchRace() {
        int a = number(8);
        int b = number(8);
        int side = number(2);
        switch (dice.nextInt(6)) {
            case 0:
                due("left(" + (a - 1) + ")", got.left(a - 1), want.left(a - 1));
                break;
            case 1:
                due("raceOf(" + b + ")", got.raceOf(b), want.raceOf(b));
                break;
            case 2:
                due("rank(" + a + ")", got.rank(a), want.rank(a));
                break;
            case 3:
                due("dropped(" + a + ")", got.dropped(a), want.dropped(a));
                break;
            case 4:
                due("odds(" + a + ", " + b + ", " + side + ")", got.odds(a, b, side), want.odds(a, b, side));
                break;
            default:
                due("mean(" + a + ", " + b + ", " + side + ")",
                        Check.meanOf(got, a, b, side), want.mean(a, b, side));
                break;
        }
    }

    private void choose() {
        int a = number(7);
        int b = number(6);
        switch (dice.nextInt(4)) {
            case 0:
                due("portfolio(" + a + ", " + (b - 1) + ")", got.portfolio(a, b - 1), want.portfolio(a, b - 1));
                break;
            case 1:
                int i = number(24);
                due("pick(" + i + ")", got.pick(i), want.pick(i));
                break;
            case 2:
                due("stump(" + b + ")", got.stump(b), want.stump(b));
                break;
            default:
                due("heldOut(" + (b - 1) + ")", got.heldOut(b - 1), want.heldOut(b - 1));
                break;
        }
    }

    private void setting() {
        due("setting()", got.setting(), want.setting());
    }

    private void instance(int f, int g, boolean heldOut) {
        due("instance(" + f + ", " + g + ", " + heldOut + ")",
                got.instance(f, g, heldOut), want.instance(f, g, heldOut));
    }

    private void cost(int s, int i, int v) {
        due("cost(" + s + ", " + i + ", " + v + ")", got.cost(s, i, v), want.cost(s, i, v));
    }

    private void due(String call, long answer, long wanted) {
        calls++;
        Check.due("run " + seed + ", call " + calls + " (" + want + "): " + call, answer, wanted);
    }
}
