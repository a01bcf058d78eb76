import java.util.List;
import java.util.function.Supplier;
import java.util.function.ToLongFunction;

/** The refusals: they change nothing, and of several the first one is answered. */
public final class RefusalsTest {
    private static final long NOTHING = RaceTuning.NOTHING;

    private RefusalsTest() {
    }

    public static void main(String[] args) throws Exception {
        Check.all(RefusalsTest.class);
    }

    /** One state in which calls are refused; each call is made on an object of its own that is in that state. */
    private static final class State {
        private final Supplier<RaceTuning> made;
        private final int[] settings;
        private final int[] instances;
        private final List<String> untouched;

        State(Supplier<RaceTuning> made, int[] settings, int[] instances) {
            this.made = made;
            this.settings = settings;
            this.instances = instances;
            untouched = later(made.get());
        }

        void refuses(String call, long want, ToLongFunction<RaceTuning> refused) {
            RaceTuning x = made.get();
            Check.due(call, refused.applyAsLong(x), want);
            Check.due(call + " again", refused.applyAsLong(x), want);
            List<String> touched = later(x);
            for (int k = 0; k < untouched.size(); k++) {
                Check.dueText("behind " + call, touched.get(k), untouched.get(k));
            }
        }

        /** What is answered now, and when the object is used further. */
        private List<String> later(RaceTuning x) {
            List<String> lines = Answers.of(x, settings, instances);
            lines.add("run() " + x.run());
            lines.add("setting() " + x.setting());
            lines.add("instance() " + x.instance(7, 7, false));
            for (int s : settings) {
                lines.add("cost of " + s + " " + x.cost(s, instances[0], 3));
            }
            for (int k = 0; k < 4; k++) {
                lines.add("run() " + x.run());
            }
            lines.add("left(-1) " + x.left(-1));
            lines.add("race() " + x.race(0, 1, 1, 2, 1, 1000, 5));
            lines.add("wants(1) " + x.wants(1));
            return lines;
        }
    }

    /** Refused in every state with three settings and four instances at most. */
    private static void dueRefusedAlways(State state) {
        state.refuses("instance(101, 0, false)", -2, x -> x.instance(101, 0, false));
        state.refuses("instance(0, -1, true)", -2, x -> x.instance(0, -1, true));
        state.refuses("cost(3, 0, 1)", -1, x -> x.cost(3, 0, 1));
        state.refuses("cost(0, 4, 1)", -1, x -> x.cost(0, 4, 1));
        state.refuses("costOf(-1, 0)", -1, x -> x.costOf(-1, 0));
        state.refuses("race of kind 2", -2, x -> x.race(2, 1, 1, 2, 1, 1000, 9));
        state.refuses("race of budget 1001", -2, x -> x.race(0, 1, 1, 2, 1, 1001, 9));
        state.refuses("wants(2)", -2, x -> x.wants(2));
        state.refuses("left(3)", -1, x -> x.left(3));
        state.refuses("raceOf(5)", -2, x -> x.raceOf(5));
        state.refuses("rank(3)", -1, x -> x.rank(3));
        state.refuses("dropped(3)", -1, x -> x.dropped(3));
        state.refuses("odds(0, 3, 0)", NOTHING, x -> x.odds(0, 3, 0));
        state.refuses("odds(0, 0, 2)", NOTHING, x -> x.odds(0, 0, 2));
        state.refuses("portfolio(0, 0)", -2, x -> x.portfolio(0, 0));
        state.refuses("portfolio(4, 0)", -3, x -> x.portfolio(4, 0));
        state.refuses("pick(4)", -1, x -> x.pick(4));
        state.refuses("stump(5)", -2, x -> x.stump(5));
        state.refuses("heldOut(4)", -2, x -> x.heldOut(4));
        state.refuses("mean(3, 0, 0)", NOTHING, x -> Check.meanOf(x, 3, 0, 0));
        state.refuses("mean(0, 0, 2)", NOTHING, x -> Check.meanOf(x, 0, 0, 2));
    }

    @Says(promise = 0, value = "REFUSALS change nothing;")
    static void inANewObject() {
        State state = new State(RaceTuning::new, new int[] {0, 1}, new int[] {0, 1});
        dueRefusedAlways(state);
        state.refuses("race without settings", -3, x -> x.race(0, 1, 1, 2, 1, 1000, 9));
        state.refuses("wants(0)", -3, x -> x.wants(0));
        state.refuses("run()", -3, RaceTuning::run);
        state.refuses("left(-1)", -1, x -> x.left(-1));
        state.refuses("raceOf(0)", -3, x -> x.raceOf(0));
        state.refuses("odds(0, 0, 0)", NOTHING, x -> x.odds(0, 0, 0));
        state.refuses("stump(0)", -3, x -> x.stump(0));
        state.refuses("heldOut(0)", -3, x -> x.heldOut(0));
        state.refuses("mean(0, 0, 0)", NOTHING, x -> Check.meanOf(x, 0, 0, 0));
    }

    /** Round 2 waits for the cost of setting 1, which is not whole, and nor is setting 2. */
    private static RaceTuning midst() {
        RaceTuning x = Check.withSettings(3);
        x.instance(10, 10, false);
        x.instance(20, 90, true);
        x.instance(30, 50, false);
        x.instance(40, 20, false);
        for (int i = 0; i < 4; i++) {
            x.cost(0, i, 10 + i);
        }
        x.race(1, 2, 1, 4, 1, 1000, 0);
        int firstOne = x.wants(1);
        x.cost(1, firstOne, 30);
        x.cost(2, firstOne, 20);
        for (int k = 0; k < 4; k++) {
            x.run();
        }
        return x;
    }

    @Says(promise = 0, value = "REFUSALS change nothing;")
    static void inTheMidstOfARace() {
        RaceTuning seen = midst();
        Check.due("rounds", seen.raceOf(1), 1);
        Check.due("runs", seen.raceOf(2), 4);
        int waitedFor = seen.wants(1);
        State state = new State(RefusalsTest::midst, new int[] {0, 1, 2}, new int[] {waitedFor, 0, 1, 2, 3});
        dueRefusedAlways(state);
        state.refuses("cost that was told", -3, x -> x.cost(0, 0, 5));
        state.refuses("cost that was told, outside its bounds", -2, x -> x.cost(0, 0, -2));
        state.refuses("cost outside its bounds", -2, x -> x.cost(1, waitedFor, 1000001));
        state.refuses("costOf that is not told", -3, x -> x.costOf(1, waitedFor));
        state.refuses("run without cost", -3, RaceTuning::run);
        state.refuses("dropped(0)", -3, x -> x.dropped(0));
        state.refuses("portfolio(2, 0)", -3, x -> x.portfolio(2, 0));
        state.refuses("portfolio(1, 1)", -1, x -> x.portfolio(1, 1));
        state.refuses("mean(0, 0, 0)", Check.THROWN, x -> Check.meanOf(x, 0, 0, 0));
        state.refuses("mean(1, 2, 0)", NOTHING, x -> Check.meanOf(x, 1, 2, 0));
    }

    private static RaceTuning over() {
        RaceTuning x = Check.told(new int[][] {{10, 10}, {20, 90}, {30, 50}}, new boolean[] {false, true, false},
                new int[][] {{1, 2, 3}, {1, 9, 3}, {9, 9, 9}});
        x.race(0, 1, 1, 2, 1, 1000, 0);
        Check.runAll(x, 5);
        return x;
    }

    @Says(promise = 0, value = "REFUSALS change nothing;")
    static void whenARaceIsOver() {
        RaceTuning seen = over();
        Check.due("why", seen.raceOf(0), 2);
        Check.due("2 dropped out", seen.dropped(2), 1);
        State state = new State(RefusalsTest::over, new int[] {0, 1, 2}, new int[] {0, 1, 2});
        dueRefusedAlways(state);
        state.refuses("wants(0)", -3, x -> x.wants(0));
        state.refuses("run()", -3, RaceTuning::run);
        state.refuses("rank of one that dropped out", -1, x -> x.rank(2));
        state.refuses("dropped of one that is left", -3, x -> x.dropped(0));
        state.refuses("cost that was told", -3, x -> x.cost(2, 2, 0));
        state.refuses("portfolio(3, 3)", -1, x -> x.portfolio(3, 3));
        state.refuses("mean(2, 2, 0)", NOTHING, x -> Check.meanOf(x, 2, 2, 0));
    }

    private static RaceTuning full() {
        RaceTuning x = Check.withSettings(12);
        for (int i = 0; i < 24; i++) {
            x.instance(i, 2 * i, i % 5 == 1);
        }
        for (int i = 0; i < 24; i++) {
            x.cost(0, i, i);
            x.cost(11, i, 24 - i);
        }
        x.race(0, 1, 1, 2, 1, 1000, 0);
        x.run();
        return x;
    }

    @Says(promise = 0, value = "REFUSALS change nothing;")
    static void withoutRoom() {
        State state = new State(RefusalsTest::full, new int[] {0, 10, 11}, new int[] {0, 1, 22, 23});
        state.refuses("setting()", -4, RaceTuning::setting);
        state.refuses("instance(0, 0, false)", -4, x -> x.instance(0, 0, false));
        state.refuses("instance(0, 0, true)", -4, x -> x.instance(0, 0, true));
        state.refuses("instance(0, 101, true)", -2, x -> x.instance(0, 101, true));
        state.refuses("cost(12, 0, 1)", -1, x -> x.cost(12, 0, 1));
        state.refuses("cost(0, 24, 1)", -1, x -> x.cost(0, 24, 1));
        state.refuses("run without cost", -3, RaceTuning::run);
    }

    @Says(promise = 0, value = "of several the first one here: -1 there is no such setting, instance, place; "
        + "-2 outside its bounds; -3 as told; -4 no room.")
    static void noSuchSettingIsBeforeOutsideItsBounds() {
        RaceTuning x = Check.raced(new int[][] {{3}});
        Check.due("cost of no setting", x.cost(1, 0, -2), -1);
        Check.due("cost on no instance", x.cost(0, 1, 1000001), -1);
        Check.due("cost of neither", x.cost(-1, -1, -2), -1);
    }

    @Says(promise = 0, value = "of several the first one here: -1 there is no such setting, instance, place;")
    static void noSuchInstanceIsBeforeAsTold() {
        RaceTuning x = new RaceTuning();
        Check.due("pick on none without a whole setting", x.pick(0), -1);
        x.setting();
        x.instance(0, 0, false);
        Check.due("pick on none without another one", x.pick(1), -1);
        Check.due("costOf on none", x.costOf(0, 1), -1);
    }

    @Says(promise = 0, value = "-2 outside its bounds; -3 as told;")
    static void outsideItsBoundsIsBeforeAsTold() {
        RaceTuning x = new RaceTuning();
        Check.due("race without settings", x.race(0, 0, 1, 2, 1, 1000, 0), -2);
        Check.due("wants without a race", x.wants(-1), -2);
        Check.due("raceOf without a race", x.raceOf(-1), -2);
        Check.due("stump without a whole setting", x.stump(-1), -2);
        Check.due("heldOut without a whole setting", x.heldOut(-1), -2);
        RaceTuning y = Check.raced(new int[][] {{3}});
        Check.due("cost that was told, too small", y.cost(0, 0, -2), -2);
        Check.due("cost that was told, too large", y.cost(0, 0, 1000001), -2);
        y.race(0, 1, 1, 2, 1, 1000, 0);
        Check.due("wants when it is over", y.wants(2), -2);
    }

    @Says(promise = 0, value = "-2 outside its bounds; -3 as told; -4 no room.")
    static void outsideItsBoundsIsBeforeNoRoom() {
        RaceTuning x = new RaceTuning();
        for (int i = 0; i < 24; i++) {
            x.instance(0, 0, false);
        }
        Check.due("f too small", x.instance(-1, 0, false), -2);
        Check.due("g too large", x.instance(0, 101, true), -2);
        Check.due("both within", x.instance(0, 100, true), -4);
    }

    @Says(promise = 0, value = "NOTHING stands for all of them where a long is answered.")
    static void nothingForLongs() {
        Check.due("NOTHING", NOTHING, Long.MIN_VALUE);
        RaceTuning x = Check.raced(new int[][] {{3}});
        Check.due("odds of no setting, no side, no race", x.odds(-1, 9, 9), NOTHING);
        Check.due("mean of no setting, no runs, no side, no race", Check.meanOf(x, -1, -1, 9), NOTHING);
        x.race(0, 1, 1, 2, 1, 1000, 0);
        Check.due("odds of no setting, no side", x.odds(-1, 9, 9), NOTHING);
        Check.due("mean of no setting, no runs, no side", Check.meanOf(x, -1, -1, 9), NOTHING);
    }

    /** Questions leave an object as it is, however often they are asked. */
    @Says(promise = 0, value = "REFUSALS change nothing;")
    static void questionsChangeNothing() {
        int[] settings = {0, 1, 2};
        int[] instances = {0, 1, 2};
        RaceTuning x = over();
        List<String> once = Answers.of(x, settings, instances);
        Check.dueText("asked again", String.valueOf(Answers.of(x, settings, instances)), String.valueOf(once));
        RaceTuning y = midst();
        once = Answers.of(y, settings, instances);
        Check.dueText("asked again", String.valueOf(Answers.of(y, settings, instances)), String.valueOf(once));
    }

    /** A whole race of 12 settings on 14 instances, with every call's answer due up to the last one. */
    @Says(promise = 0, value = {"An object is used for at most 512 calls after it has been made;",
        "what later calls answer is free."})
    static void fiveHundredAndTwelveCalls() {
        RaceTuning x = Check.withSettings(12);
        int calls = 12;
        for (int i = 0; i < 14; i++, calls++) {
            Check.due("instance", x.instance(i, i, false), i);
        }
        for (int s = 0; s < 12; s++) {
            for (int i = 0; i < 14; i++, calls++) {
                Check.due("cost", x.cost(s, i, 5), i + 1);
            }
        }
        Check.due("race", x.race(1, 1, 1, 2, 1, 1000, 1), 12);
        calls++;
        for (int run = 1; run <= 168; run++, calls++) {
            Check.due("run", x.run(), run);
        }
        while (calls < 511) {
            Check.due("why", x.raceOf(0), 2);
            calls++;
        }
        Check.due("the call with number 512", x.rank(11), 14 * 11);
        // Any answer will do here, but not an exception: LANGUAGE.md, rule 7.
        for (int later = 0; later < 50; later++) {
            x.setting();
            x.instance(later, later, false);
            x.race(0, 1, 1, 2, 1, 1000, later);
            x.run();
            x.portfolio(6, 0);
            x.heldOut(3);
        }
    }
}
