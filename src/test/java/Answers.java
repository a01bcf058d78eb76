import java.util.ArrayList;
import java.util.List;

/** All that can be asked of a small object, a line for each answer: two objects with like lines are alike. */
final class Answers {
    private final RaceTuning x;
    private final List<String> lines = new ArrayList<>();

    private Answers(RaceTuning x) {
        this.x = x;
    }

    static List<String> of(RaceTuning x, int[] settings, int[] instances) {
        Answers answers = new Answers(x);
        answers.ofTheRace();
        for (int s : settings) {
            answers.ofOne(s, instances);
            for (int other : settings) {
                answers.add("odds of " + s + " over " + other, x.odds(s, other, 0));
                answers.add("odds of " + s + " over " + other + ", lower", x.odds(s, other, 1));
            }
        }
        for (int i : instances) {
            answers.add("pick(" + i + ")", x.pick(i));
        }
        answers.ofTheChoices(settings.length);
        return answers.lines;
    }

    private void add(String call, long answer) {
        lines.add(call + " " + answer);
    }

    private void ofTheRace() {
        for (int what = 0; what < 5; what++) {
            add("raceOf(" + what + ")", x.raceOf(what));
        }
        add("wants(0)", x.wants(0));
        add("wants(1)", x.wants(1));
        for (int k = -1; k < 4; k++) {
            add("left(" + k + ")", x.left(k));
        }
    }

    private void ofOne(int s, int[] instances) {
        add("rank(" + s + ")", x.rank(s));
        add("dropped(" + s + ")", x.dropped(s));
        for (int i : instances) {
            add("costOf(" + s + ", " + i + ")", x.costOf(s, i));
        }
        for (int n = 0; n < 4; n++) {
            add("mean(" + s + ", " + n + ", 0)", Check.meanOf(x, s, n, 0));
            add("mean(" + s + ", " + n + ", 1)", Check.meanOf(x, s, n, 1));
        }
    }

    private void ofTheChoices(int settings) {
        for (int k = 1; k <= settings; k++) {
            for (int i = -1; i < k; i++) {
                add("portfolio(" + k + ", " + i + ")", x.portfolio(k, i));
            }
        }
        for (int what = 0; what < 5; what++) {
            add("stump(" + what + ")", x.stump(what));
        }
        for (int by = 0; by < 4; by++) {
            add("heldOut(" + by + ")", x.heldOut(by));
        }
    }
}
