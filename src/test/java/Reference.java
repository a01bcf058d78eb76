import java.util.ArrayList;
import java.util.Arrays;
import java.util.List;

/**
 * The document once more, in the slowest and most literal way: every set, every row of signs and every
 * stump is tried. The program's answers are held against it in ModelTest.
 */
final class Reference {
    static final long NOTHING = Long.MIN_VALUE;

    private static final class Instance {
        int f;
        int g;
        boolean heldOut;

        int feature(int which) {
            return which == 0 ? f : g;
        }
    }

    private final List<Integer[]> settings = new ArrayList<>();
    private final List<Instance> instances = new ArrayList<>();

    private boolean raced = false;
    private int kind;
    private int first;
    private int up;
    private int down;
    private int least;
    private int budget;
    private List<Integer> order;
    private List<List<Integer>> taken;
    private int[] droppedAt;
    private int rounds;
    private int why;

    int setting() {
        if (settings.size() == 12) {
            return -4;
        }
        settings.add(new Integer[24]);
        return settings.size() - 1;
    }

    int instance(int f, int g, boolean heldOut) {
        if (f < 0 || f > 100 || g < 0 || g > 100) {
            return -2;
        }
        if (instances.size() == 24) {
            return -4;
        }
        Instance made = new Instance();
        made.f = f;
        made.g = g;
        made.heldOut = heldOut;
        instances.add(made);
        return instances.size() - 1;
    }

    private boolean known(int s, int i) {
        return s >= 0 && s < settings.size() && i >= 0 && i < instances.size();
    }

    int cost(int s, int i, int v) {
        if (!known(s, i)) {
            return -1;
        }
        if (v < -1 || v > 1000000) {
            return -2;
        }
        if (settings.get(s)[i] != null) {
            return -3;
        }
        settings.get(s)[i] = v == -1 ? 2000000 : v;
        return told(s);
    }

    private int told(int s) {
        int count = 0;
        for (Integer v : settings.get(s)) {
            count += v == null ? 0 : 1;
        }
        return count;
    }

    int costOf(int s, int i) {
        if (!known(s, i)) {
            return -1;
        }
        return settings.get(s)[i] == null ? -3 : settings.get(s)[i];
    }

    int race(int kind, int first, int up, int down, int least, int budget, int seed) {
        if (kind < 0 || kind > 1 || first < 1 || first > 24 || up < 1 || up > 1000 || down < 1 || down > 1000
                || up > down || least < 1 || least > 12 || budget < 0 || budget > 1000) {
            return -2;
        }
        if (settings.isEmpty()) {
            return -3;
        }
        raced = true;
        this.kind = kind;
        this.first = first;
        this.up = up;
        this.down = down;
        this.least = least;
        this.budget = budget;
        order = shuffled(seed);
        taken = new ArrayList<>();
        for (int s = 0; s < settings.size(); s++) {
            taken.add(new ArrayList<>());
        }
        droppedAt = new int[settings.size()];
        rounds = 0;
        why = reason();
        return settings.size();
    }

    private List<Integer> shuffled(int seed) {
        List<Integer> row = learning();
        long x = seed & 0xFFFFFFFFL;
        for (int k = row.size() - 1; k >= 1; k--) {
            x = (x * 1103515245L + 12345L) & 0xFFFFFFFFL;
            java.util.Collections.swap(row, k, (int) ((x / 65536) % (k + 1)));
        }
        return row;
    }

    private List<Integer> learning() {
        List<Integer> row = new ArrayList<>();
        for (int i = 0; i < instances.size(); i++) {
            if (!instances.get(i).heldOut) {
                row.add(i);
            }
        }
        return row;
    }

    private List<Integer> leftOnes() {
        List<Integer> row = new ArrayList<>();
        for (int s = 0; s < droppedAt.length; s++) {
            if (droppedAt[s] == 0) {
                row.add(s);
            }
        }
        return row;
    }

    private int runs() {
        int sum = 0;
        for (List<Integer> row : taken) {
            sum += row.size();
        }
        return sum;
    }

    private int reason() {
        int left = leftOnes().size();
        if (left == 1 || left <= least) {
            return 1;
        }
        if (rounds == order.size()) {
            return 2;
        }
        return budget - runs() < left ? 3 : 0;
    }

    int wants(int what) {
        if (what != 0 && what != 1) {
            return -2;
        }
        if (!raced || why != 0) {
            return -3;
        }
        return what == 0 ? nextSetting() : order.get(rounds);
    }

    private int nextSetting() {
        for (int s : leftOnes()) {
            if (taken.get(s).size() == rounds) {
                return s;
            }
        }
        throw new AssertionError("a round that is done was not ended");
    }

    int run() {
        if (!raced || why != 0) {
            return -3;
        }
        int s = nextSetting();
        Integer v = settings.get(s)[order.get(rounds)];
        if (v == null) {
            return -3;
        }
        taken.get(s).add(v);
        List<Integer> left = leftOnes();
        if (s == left.get(left.size() - 1)) {
            rounds++;
            if (rounds >= first) {
                drop();
            }
            why = reason();
        }
        return runs();
    }

    private void drop() {
        List<Integer> left = leftOnes();
        int lead = leader();
        int[] ranks = new int[droppedAt.length];
        for (int s : left) {
            ranks[s] = rank(s);
        }
        List<Integer> others = new ArrayList<>(left);
        others.remove(Integer.valueOf(lead));
        others.sort((a, b) -> ranks[a] != ranks[b] ? ranks[b] - ranks[a] : b - a);
        int still = left.size();
        for (int s : others) {
            long[] odds = fraction(lead, s);
            if (still > least && odds[0] * down <= up * odds[1]) {
                droppedAt[s] = rounds;
                still--;
            }
        }
    }

    int left(int k) {
        if (!raced) {
            return -1;
        }
        List<Integer> left = leftOnes();
        if (k == -1) {
            return left.size();
        }
        return k < 0 || k >= left.size() ? -1 : left.get(k);
    }

    int raceOf(int what) {
        if (what < 0 || what > 4) {
            return -2;
        }
        if (!raced) {
            return -3;
        }
        int[] all = {why, rounds, runs(), leader(), droppedAt.length - leftOnes().size()};
        return all[what];
    }

    private int leader() {
        int best = -1;
        for (int s : leftOnes()) {
            if (best == -1 || rank(s) < rank(best)) {
                best = s;
            }
        }
        return best;
    }

    private boolean inRace(int s) {
        return raced && s >= 0 && s < droppedAt.length;
    }

    int rank(int s) {
        if (!inRace(s) || droppedAt[s] != 0) {
            return -1;
        }
        int sum = 0;
        for (int r = 0; r < rounds; r++) {
            for (int other : leftOnes()) {
                int compared = taken.get(other).get(r).compareTo(taken.get(s).get(r));
                sum += other == s ? 0 : compared < 0 ? 2 : compared == 0 ? 1 : 0;
            }
        }
        return sum;
    }

    int dropped(int s) {
        if (!inRace(s)) {
            return -1;
        }
        return droppedAt[s] == 0 ? -3 : droppedAt[s];
    }

    long odds(int a, int b, int side) {
        if (!inRace(a) || !inRace(b) || side < 0 || side > 1) {
            return NOTHING;
        }
        return fraction(a, b)[side];
    }

    private long[] fraction(int a, int b) {
        List<Integer> differences = new ArrayList<>();
        for (int r = 0; r < rounds; r++) {
            if (taken.get(a).size() > r && taken.get(b).size() > r) {
                int d = taken.get(b).get(r) - taken.get(a).get(r);
                if (d != 0) {
                    differences.add(d);
                }
            }
        }
        int n = differences.size();
        int[] weights = new int[n];
        int reached = 0;
        for (int k = 0; k < n; k++) {
            weights[k] = kind == 0 ? 1 : signedRank(differences, k);
            reached += differences.get(k) > 0 ? weights[k] : 0;
        }
        long rows = 0;
        for (int signs = 0; signs < 1 << n; signs++) {
            int sum = 0;
            for (int k = 0; k < n; k++) {
                sum += (signs >> k & 1) == 1 ? weights[k] : 0;
            }
            rows += sum >= reached ? 1 : 0;
        }
        return lowest(rows, 1L << n);
    }

    private static int signedRank(List<Integer> differences, int k) {
        int weight = 2;
        for (int other = 0; other < differences.size(); other++) {
            int mine = Math.abs(differences.get(k));
            int others = Math.abs(differences.get(other));
            weight += other == k ? 0 : others < mine ? 2 : others == mine ? 1 : 0;
        }
        return weight;
    }

    private static long[] lowest(long upper, long lower) {
        long divisor = java.math.BigInteger.valueOf(upper).gcd(java.math.BigInteger.valueOf(lower)).longValue();
        return new long[] {upper / divisor, lower / divisor};
    }

    private List<Integer> whole() {
        List<Integer> row = new ArrayList<>();
        for (int s = 0; s < settings.size(); s++) {
            if (told(s) == instances.size()) {
                row.add(s);
            }
        }
        return row;
    }

    private int sumOfLeast(List<Integer> set) {
        int sum = 0;
        for (int i : learning()) {
            int least = Integer.MAX_VALUE;
            for (int s : set) {
                least = Math.min(least, settings.get(s)[i]);
            }
            sum += least;
        }
        return sum;
    }

    private List<Integer> bestSet(int k) {
        List<Integer> whole = whole();
        List<Integer> best = null;
        for (int mask = 0; mask < 1 << whole.size(); mask++) {
            List<Integer> set = new ArrayList<>();
            for (int p = 0; p < whole.size(); p++) {
                if ((mask >> p & 1) == 1) {
                    set.add(whole.get(p));
                }
            }
            if (set.size() == k && (best == null || isBetter(set, best))) {
                best = set;
            }
        }
        return best;
    }

    private boolean isBetter(List<Integer> set, List<Integer> than) {
        int compared = Integer.compare(sumOfLeast(set), sumOfLeast(than));
        for (int p = 0; p < set.size() && compared == 0; p++) {
            compared = Integer.compare(set.get(p), than.get(p));
        }
        return compared < 0;
    }

    int portfolio(int k, int i) {
        if (k < 1) {
            return -2;
        }
        if (k > whole().size()) {
            return -3;
        }
        if (i < -1 || i >= k) {
            return -1;
        }
        List<Integer> best = bestSet(k);
        return i == -1 ? sumOfLeast(best) : best.get(i);
    }

    int pick(int instance) {
        if (instance < 0 || instance >= instances.size()) {
            return -1;
        }
        Instance mine = instances.get(instance);
        int nearest = -1;
        int least = 0;
        for (int i : learning()) {
            Instance other = instances.get(i);
            int far = Math.abs(other.f - mine.f) + Math.abs(other.g - mine.g);
            if (i != instance && (nearest == -1 || far < least)) {
                nearest = i;
                least = far;
            }
        }
        return nearest == -1 ? -3 : bestOn(nearest);
    }

    private int bestOn(int i) {
        int best = -3;
        for (int s : whole()) {
            if (best == -3 || settings.get(s)[i] < settings.get(best)[i]) {
                best = s;
            }
        }
        return best;
    }

    private int[] bestStump() {
        int[] best = null;
        for (int feature = 0; feature <= 1; feature++) {
            for (int cut = 1; cut <= 100; cut++) {
                for (int low : whole()) {
                    for (int high : whole()) {
                        int sum = 0;
                        for (int i : learning()) {
                            sum += settings.get(instances.get(i).feature(feature) < cut ? low : high)[i];
                        }
                        if (best == null || sum < best[4]) {
                            best = new int[] {feature, cut, low, high, sum};
                        }
                    }
                }
            }
        }
        return best;
    }

    int stump(int what) {
        if (what < 0 || what > 4) {
            return -2;
        }
        return whole().isEmpty() ? -3 : bestStump()[what];
    }

    int heldOut(int by) {
        if (by < 0 || by > 3) {
            return -2;
        }
        if (whole().isEmpty()) {
            return -3;
        }
        int[] best = bestStump();
        int sum = 0;
        for (int i = 0; i < instances.size(); i++) {
            if (instances.get(i).heldOut) {
                int below = instances.get(i).feature(best[0]) < best[1] ? best[2] : best[3];
                int[] all = {pick(i), bestSet(1).get(0), bestOn(i), below};
                if (all[by] < 0) {
                    return -3;
                }
                sum += settings.get(all[by])[i];
            }
        }
        return sum;
    }

    /** Check.THROWN stands for the ArithmeticException. */
    long mean(int s, int n, int side) {
        if (!inRace(s) || n < 0 || n > taken.get(s).size() || side < 0 || side > 1) {
            return NOTHING;
        }
        if (n == 0) {
            return Check.THROWN;
        }
        long sum = 0;
        for (int v : taken.get(s).subList(0, n)) {
            sum += v;
        }
        return lowest(sum, n)[side];
    }

    @Override
    public String toString() {
        return settings.size() + " settings, " + instances.size() + " instances, " + Arrays.toString(droppedAt);
    }
}
