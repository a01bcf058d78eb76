import java.util.Arrays;

/**
 * Settings of a program that race over instances, and what to choose of them:
 * a few together, one by what an instance looks like, and what that is worth
 * on instances that never chose.
 */
public final class RaceTuning {
    public static final long NOTHING = Long.MIN_VALUE;

    private static final int NO_SUCH = -1;
    private static final int OUT_OF_BOUNDS = -2;
    private static final int NOT_SO = -3;
    private static final int NO_ROOM = -4;

    private static final int MOST_SETTINGS = 12;
    private static final int MOST_INSTANCES = 24;
    private static final int FEATURES = 2;
    private static final int MOST_FEATURE = 100;
    private static final int MOST_COST = 1000000;
    private static final int TOLD_AS_FAILED = -1;
    private static final int FAILED = 2000000;
    private static final int UNTOLD = -1;
    private static final int NONE = -1;
    private static final int ALL_TOGETHER = -1;

    private static final int MOST_LEVEL = 1000;
    private static final int MOST_BUDGET = 1000;

    private static final int NOT_OVER = 0;
    private static final int FEW_LEFT = 1;
    private static final int NO_INSTANCE = 2;
    private static final int NO_BUDGET = 3;

    private final Table table;
    private final Odds counter;
    private final Portfolio few;
    private final Stump split;
    private Race current;

    public RaceTuning() {
        table = new Table();
        counter = new Odds();
        few = new Portfolio();
        split = new Stump();
        current = null;
    }

    public int setting() {
        return table.addSetting();
    }

    public int instance(int f, int g, boolean heldOut) {
        if (!isWithin(f, 0, MOST_FEATURE) || !isWithin(g, 0, MOST_FEATURE)) {
            return OUT_OF_BOUNDS;
        }
        return table.addInstance(f, g, !heldOut);
    }

    public int cost(int setting, int instance, int v) {
        if (!table.hasSetting(setting) || !table.hasInstance(instance)) {
            return NO_SUCH;
        }
        if (v != TOLD_AS_FAILED && !isWithin(v, 0, MOST_COST)) {
            return OUT_OF_BOUNDS;
        }
        if (table.costAt(setting, instance) != UNTOLD) {
            return NOT_SO;
        }
        return table.tell(setting, instance, v == TOLD_AS_FAILED ? FAILED : v);
    }

    public int costOf(int setting, int instance) {
        if (!table.hasSetting(setting) || !table.hasInstance(instance)) {
            return NO_SUCH;
        }
        int told = table.costAt(setting, instance);
        return told == UNTOLD ? NOT_SO : told;
    }

    // ---- races

    public int race(int kind, int first, int up, int down, int least, int budget, int seed) {
        Rules rules = new Rules(kind, first, up, down, least, budget);
        if (!rules.areWithinBounds()) {
            return OUT_OF_BOUNDS;
        }
        if (table.settings == 0) {
            return NOT_SO;
        }
        Race begun = new Race(table, counter, rules);
        begun.begin(seed);
        current = begun;
        return begun.entered;
    }

    public int wants(int what) {
        if (!isWithin(what, 0, 1)) {
            return OUT_OF_BOUNDS;
        }
        if (current == null || current.why != NOT_OVER) {
            return NOT_SO;
        }
        return what == 0 ? current.next : current.instanceAt(current.rounds);
    }

    public int run() {
        return current == null ? NOT_SO : current.runNext();
    }

    public int left(int k) {
        if (current == null) {
            return NO_SUCH;
        }
        return k == ALL_TOGETHER ? current.remaining : current.remainingAt(k);
    }

    public int raceOf(int what) {
        if (!isWithin(what, 0, 4)) {
            return OUT_OF_BOUNDS;
        }
        if (current == null) {
            return NOT_SO;
        }
        switch (what) {
            case 0:
                return current.why;
            case 1:
                return current.rounds;
            case 2:
                return current.runs;
            case 3:
                return current.leader();
            default:
                return current.entered - current.remaining;
        }
    }

    public int rank(int setting) {
        if (current == null || !current.isLeft(setting)) {
            return NO_SUCH;
        }
        return current.rankOf(setting);
    }

    public int dropped(int setting) {
        if (current == null || !current.isEntered(setting)) {
            return NO_SUCH;
        }
        return current.isLeft(setting) ? NOT_SO : current.droppedBehind[setting];
    }

    public long odds(int a, int b, int side) {
        if (current == null || !current.isEntered(a) || !current.isEntered(b) || !isWithin(side, 0, 1)) {
            return NOTHING;
        }
        current.countOdds(a, b);
        return lowestTerms(counter.upper, counter.lower, side);
    }

    // ---- choices

    public int portfolio(int k, int i) {
        if (k < 1) {
            return OUT_OF_BOUNDS;
        }
        if (k > table.countWhole()) {
            return NOT_SO;
        }
        if (i != ALL_TOGETHER && !isWithin(i, 0, k - 1)) {
            return NO_SUCH;
        }
        few.find(table, k);
        return i == ALL_TOGETHER ? few.leastSum : few.memberAt(i);
    }

    public int pick(int instance) {
        if (!table.hasInstance(instance)) {
            return NO_SUCH;
        }
        int setting = pickFor(instance);
        return setting == NONE ? NOT_SO : setting;
    }

    public int stump(int what) {
        if (!isWithin(what, 0, 4)) {
            return OUT_OF_BOUNDS;
        }
        if (table.countWhole() == 0) {
            return NOT_SO;
        }
        split.find(table);
        switch (what) {
            case 0:
                return split.feature;
            case 1:
                return split.cut;
            case 2:
                return split.settingBelow;
            case 3:
                return split.settingFromCut;
            default:
                return split.leastSum;
        }
    }

    public int heldOut(int by) {
        if (!isWithin(by, 0, 3)) {
            return OUT_OF_BOUNDS;
        }
        if (table.countWhole() == 0) {
            return NOT_SO;
        }
        findChoice(by);
        int sum = 0;
        for (int i = 0; i < table.instances; i++) {
            if (!table.isLearning(i)) {
                int setting = chosenFor(by, i);
                if (setting == NONE) {
                    return NOT_SO;
                }
                sum += table.costAt(setting, i);
            }
        }
        return sum;
    }

    public long mean(int setting, int n, int side) throws ArithmeticException {
        if (current == null || !current.isEntered(setting) || !isWithin(side, 0, 1)
                || !isWithin(n, 0, current.ran[setting])) {
            return NOTHING;
        }
        if (n == 0) {
            throw new ArithmeticException("no runs have no mean");
        }
        return lowestTerms(current.sumOfFirst(setting, n), n, side);
    }

    private static boolean isWithin(int v, int low, int high) {
        return v >= low && v <= high;
    }

    private int pickFor(int instance) {
        return table.bestOn(table.nearestLearning(instance));
    }

    /** What all held out instances share is searched once, not for each of them. */
    private void findChoice(int by) {
        if (by == 1) {
            few.find(table, 1);
        } else if (by == 3) {
            split.find(table);
        }
    }

    private int chosenFor(int by, int instance) {
        switch (by) {
            case 0:
                return pickFor(instance);
            case 1:
                return few.memberAt(0);
            case 2:
                return table.bestOn(instance);
            default:
                return split.settingFor(table, instance);
        }
    }

    private static long lowestTerms(long upper, long lower, int side) {
        long divisor = greatestDivisor(upper, lower);
        long part = side == 0 ? upper : lower;
        return divisor == 0 ? part : part / divisor;
    }

    /** Euclid's way; both are below 2^26, for which 64 steps are more than enough. */
    private static long greatestDivisor(long a, long b) {
        long great = a;
        long small = b;
        for (int step = 0; step < 64 && small != 0; step++) {
            long rest = great % small;
            great = small;
            small = rest;
        }
        return great;
    }

    /** What was told: the settings, the instances, the costs. */
    private static final class Table {
        private final int[][] costs = new int[MOST_SETTINGS][MOST_INSTANCES];
        private final int[] toldOf = new int[MOST_SETTINGS];
        private final int[][] features = new int[FEATURES][MOST_INSTANCES];
        private final boolean[] learning = new boolean[MOST_INSTANCES];
        private int settings = 0;
        private int instances = 0;

        Table() {
            for (int s = 0; s < MOST_SETTINGS; s++) {
                Arrays.fill(costs[s], UNTOLD);
            }
        }

        int addSetting() {
            if (settings >= MOST_SETTINGS) {
                return NO_ROOM;
            }
            settings++;
            return settings - 1;
        }

        int addInstance(int f, int g, boolean learns) {
            if (instances >= MOST_INSTANCES) {
                return NO_ROOM;
            }
            features[0][instances] = f;
            features[1][instances] = g;
            learning[instances] = learns;
            instances++;
            return instances - 1;
        }

        boolean hasSetting(int s) {
            return s >= 0 && s < settings;
        }

        boolean hasInstance(int i) {
            return i >= 0 && i < instances;
        }

        boolean isLearning(int i) {
            return hasInstance(i) && learning[i];
        }

        int costAt(int s, int i) {
            return hasSetting(s) && hasInstance(i) ? costs[s][i] : UNTOLD;
        }

        int tell(int s, int i, int v) {
            if (!hasSetting(s) || !hasInstance(i)) {
                return NO_SUCH;
            }
            costs[s][i] = v;
            toldOf[s]++;
            return toldOf[s];
        }

        boolean isWhole(int s) {
            return hasSetting(s) && toldOf[s] == instances;
        }

        int countWhole() {
            int count = 0;
            for (int s = 0; s < settings; s++) {
                if (isWhole(s)) {
                    count++;
                }
            }
            return count;
        }

        int featureAt(int feature, int i) {
            return isWithin(feature, 0, FEATURES - 1) && hasInstance(i) ? features[feature][i] : 0;
        }

        int[] learningOnes() {
            int count = 0;
            for (int i = 0; i < instances; i++) {
                if (learning[i]) {
                    count++;
                }
            }
            int[] row = new int[count];
            int place = 0;
            for (int i = 0; i < instances && place < count; i++) {
                if (learning[i]) {
                    row[place] = i;
                    place++;
                }
            }
            return row;
        }

        int nearestLearning(int instance) {
            int nearest = NONE;
            int least = Integer.MAX_VALUE;
            for (int i = 0; i < instances; i++) {
                if (i != instance && learning[i] && distance(i, instance) < least) {
                    nearest = i;
                    least = distance(i, instance);
                }
            }
            return nearest;
        }

        private int distance(int i, int j) {
            return Math.abs(featureAt(0, i) - featureAt(0, j)) + Math.abs(featureAt(1, i) - featureAt(1, j));
        }

        /** The whole setting with the least cost on an instance; NONE if there is no such instance. */
        int bestOn(int instance) {
            int best = NONE;
            int least = Integer.MAX_VALUE;
            for (int s = 0; s < settings && hasInstance(instance); s++) {
                if (isWhole(s) && costs[s][instance] < least) {
                    best = s;
                    least = costs[s][instance];
                }
            }
            return best;
        }
    }

    /** What a race goes by from its beginning to its end. */
    private static final class Rules {
        private final int kind;
        private final int first;
        private final int up;
        private final int down;
        private final int least;
        private final int budget;

        Rules(int kind, int first, int up, int down, int least, int budget) {
            this.kind = kind;
            this.first = first;
            this.up = up;
            this.down = down;
            this.least = least;
            this.budget = budget;
        }

        boolean areWithinBounds() {
            return isWithin(kind, 0, 1)
                    && isWithin(first, 1, MOST_INSTANCES)
                    && isWithin(up, 1, MOST_LEVEL)
                    && isWithin(down, 1, MOST_LEVEL)
                    && up <= down
                    && isWithin(least, 1, MOST_SETTINGS)
                    && isWithin(budget, 0, MOST_BUDGET);
        }
    }

    /** One race; its order and its settings are those of its beginning. */
    private static final class Race {
        private final Table table;
        private final Odds counter;
        private final Rules rules;
        private final int[] order;
        private final int entered;
        private final int[][] taken = new int[MOST_SETTINGS][MOST_INSTANCES];
        private final int[] droppedBehind = new int[MOST_SETTINGS];
        private final int[] ran = new int[MOST_SETTINGS];
        private final int[] standing = new int[MOST_SETTINGS];
        private final int[] standingRanks = new int[MOST_SETTINGS];
        private int remaining;
        private int next = 0;
        private int rounds = 0;
        private int runs = 0;
        private int why = NOT_OVER;

        Race(Table table, Odds counter, Rules rules) {
            this.table = table;
            this.counter = counter;
            this.rules = rules;
            order = table.learningOnes();
            entered = table.settings;
            remaining = table.settings;
        }

        void begin(int seed) {
            int x = seed;
            for (int k = order.length - 1; k >= 1; k--) {
                x = x * 1103515245 + 12345;
                int other = (x >>> 16) % (k + 1);
                int moved = order[k];
                order[k] = order[other];
                order[other] = moved;
            }
            why = whyOver();
        }

        private int whyOver() {
            if (remaining <= 1 || remaining <= rules.least) {
                return FEW_LEFT;
            }
            if (rounds >= order.length) {
                return NO_INSTANCE;
            }
            return rules.budget - runs < remaining ? NO_BUDGET : NOT_OVER;
        }

        boolean isEntered(int s) {
            return s >= 0 && s < entered;
        }

        boolean isLeft(int s) {
            return s >= 0 && s < entered && droppedBehind[s] == 0;
        }

        int instanceAt(int place) {
            return place >= 0 && place < order.length ? order[place] : NONE;
        }

        int remainingAt(int k) {
            int place = 0;
            for (int s = 0; s < entered; s++) {
                if (isLeft(s)) {
                    if (place == k) {
                        return s;
                    }
                    place++;
                }
            }
            return NO_SUCH;
        }

        private int leftFrom(int from) {
            for (int s = from; s < entered; s++) {
                if (isLeft(s)) {
                    return s;
                }
            }
            return NONE;
        }

        int runNext() {
            int told = table.costAt(next, instanceAt(rounds));
            if (why != NOT_OVER || told == UNTOLD || !isLeft(next)) {
                return NOT_SO;
            }
            taken[next][rounds] = told;
            ran[next]++;
            runs++;
            next = leftFrom(next + 1);
            if (next == NONE) {
                endRound();
            }
            return runs;
        }

        private void endRound() {
            rounds++;
            if (rounds >= rules.first) {
                dropWorse();
            }
            next = leftFrom(0);
            why = whyOver();
        }

        /** Goes by one arrangement, so leader and ranks stay as the round ended while settings drop out. */
        private void dropWorse() {
            int count = arrange();
            int leader = standing[0];
            for (int place = count - 1; place >= 1 && remaining > rules.least; place--) {
                int s = standing[place];
                countOdds(leader, s);
                if (isLeft(s) && !counter.areAbove(rules.up, rules.down)) {
                    droppedBehind[s] = rounds;
                    remaining--;
                }
            }
        }

        int leader() {
            return arrange() == 0 ? NONE : standing[0];
        }

        /** Puts those left by rank, then number, the least first; answers how many there are. */
        private int arrange() {
            int count = 0;
            for (int s = 0; s < entered; s++) {
                if (isLeft(s)) {
                    int rank = rankOf(s);
                    int place = count;
                    while (place > 0 && standingRanks[place - 1] > rank) {
                        standing[place] = standing[place - 1];
                        standingRanks[place] = standingRanks[place - 1];
                        place--;
                    }
                    standing[place] = s;
                    standingRanks[place] = rank;
                    count++;
                }
            }
            return count;
        }

        int rankOf(int s) {
            int rank = 0;
            for (int other = 0; other < entered; other++) {
                if (other != s && isLeft(other)) {
                    rank += rankAgainst(s, other);
                }
            }
            return rank;
        }

        private int rankAgainst(int s, int other) {
            int rank = 0;
            for (int round = 0; round < rounds; round++) {
                if (taken[other][round] < taken[s][round]) {
                    rank += 2;
                } else if (taken[other][round] == taken[s][round]) {
                    rank += 1;
                }
            }
            return rank;
        }

        void countOdds(int a, int b) {
            counter.clear();
            if (isEntered(a) && isEntered(b)) {
                int both = Math.min(rounds, Math.min(ran[a], ran[b]));
                for (int round = 0; round < both; round++) {
                    counter.addRound(taken[a][round], taken[b][round]);
                }
            }
            counter.count(rules.kind);
        }

        long sumOfFirst(int s, int n) {
            long sum = 0;
            for (int round = 0; round < n && isEntered(s) && round < ran[s]; round++) {
                sum += taken[s][round];
            }
            return sum;
        }
    }

    /** Counts the rows of signs that speak as much for one setting over another as the rounds do. */
    private static final class Odds {
        /** All weights of n rounds are n * (n + 1) together. */
        private static final int MOST_WEIGHT = MOST_INSTANCES * (MOST_INSTANCES + 1);

        private final int[] gaps = new int[MOST_INSTANCES];
        private final boolean[] isForA = new boolean[MOST_INSTANCES];
        private final long[] ways = new long[MOST_WEIGHT + 1];
        private int unlike = 0;
        private long upper = 1;
        private long lower = 1;

        void clear() {
            unlike = 0;
        }

        void addRound(int costOfA, int costOfB) {
            if (costOfA != costOfB && unlike < MOST_INSTANCES) {
                gaps[unlike] = Math.abs(costOfA - costOfB);
                isForA[unlike] = costOfA < costOfB;
                unlike++;
            }
        }

        /** Signs alone are weights of 1 each, so both kinds are counted the same way. */
        void count(int kind) {
            Arrays.fill(ways, 0L);
            ways[0] = 1;
            int most = 0;
            int reached = 0;
            lower = 1;
            for (int k = 0; k < unlike; k++) {
                int weight = kind == 0 ? 1 : weightOf(k);
                most = Math.min(most + weight, MOST_WEIGHT);
                addSign(weight, most);
                if (isForA[k]) {
                    reached += weight;
                }
                lower *= 2;
            }
            upper = 0;
            for (int sum = reached; sum <= most; sum++) {
                upper += ways[sum];
            }
        }

        /** From the greatest sum down, so that no sum is counted with the same sign twice. */
        private void addSign(int weight, int most) {
            for (int sum = most; sum >= weight; sum--) {
                ways[sum] += ways[sum - weight];
            }
        }

        private int weightOf(int k) {
            int weight = 2;
            for (int other = 0; other < unlike; other++) {
                if (gaps[other] < gaps[k]) {
                    weight += 2;
                } else if (other != k && gaps[other] == gaps[k]) {
                    weight += 1;
                }
            }
            return weight;
        }

        boolean areAbove(int up, int down) {
            return upper * down > up * lower;
        }
    }

    /** Goes through the sets by rising numbers, so that of like ones the first stays. */
    private static final class Portfolio {
        private static final int MOST_SETS = 1 << MOST_SETTINGS;

        private final int[] whole = new int[MOST_SETTINGS];
        private final int[] places = new int[MOST_SETTINGS];
        private final int[] best = new int[MOST_SETTINGS];
        /** Row d + 1 has the least costs of the first d + 1 of a set: sets with a like beginning share them. */
        private final int[][] leastCosts = new int[MOST_SETTINGS + 1][MOST_INSTANCES];
        private int wholeCount = 0;
        private int size = 0;
        private int leastSum = 0;

        void find(Table table, int k) {
            gatherWhole(table);
            size = Math.max(0, Math.min(k, wholeCount));
            leastSum = Integer.MAX_VALUE;
            Arrays.fill(leastCosts[0], FAILED);
            placeFrom(table, 0, 0);
            int rising = 0;
            for (int turn = 0; turn < MOST_SETS && rising != NONE; turn++) {
                keepIfLess(table);
                rising = lastThatCanRise();
                if (rising != NONE) {
                    placeFrom(table, rising, places[rising] + 1);
                }
            }
        }

        int memberAt(int i) {
            return i >= 0 && i < size ? best[i] : NONE;
        }

        private void gatherWhole(Table table) {
            wholeCount = 0;
            for (int s = 0; s < table.settings; s++) {
                if (table.isWhole(s)) {
                    whole[wholeCount] = s;
                    wholeCount++;
                }
            }
        }

        private void placeFrom(Table table, int depth, int place) {
            for (int d = depth; d < size && place + d - depth < wholeCount; d++) {
                places[d] = place + d - depth;
                joinCosts(table, d, whole[places[d]]);
            }
        }

        private void joinCosts(Table table, int depth, int s) {
            for (int i = 0; i < table.instances; i++) {
                leastCosts[depth + 1][i] = Math.min(leastCosts[depth][i], table.costAt(s, i));
            }
        }

        private int lastThatCanRise() {
            for (int depth = size - 1; depth >= 0; depth--) {
                if (places[depth] < wholeCount - size + depth) {
                    return depth;
                }
            }
            return NONE;
        }

        private void keepIfLess(Table table) {
            int sum = 0;
            for (int i = 0; i < table.instances; i++) {
                if (table.isLearning(i)) {
                    sum += leastCosts[size][i];
                }
            }
            if (sum < leastSum) {
                leastSum = sum;
                for (int d = 0; d < size; d++) {
                    best[d] = whole[places[d]];
                }
            }
        }
    }

    /** One setting below a cut of a feature, one from the cut on. */
    private static final class Stump {
        private final int[] sumsBelow = new int[MOST_SETTINGS];
        private final int[] sumsFromCut = new int[MOST_SETTINGS];
        private int feature = 0;
        private int cut = 1;
        private int settingBelow = NONE;
        private int settingFromCut = NONE;
        private int leastSum = 0;

        void find(Table table) {
            settingBelow = NONE;
            settingFromCut = NONE;
            leastSum = Integer.MAX_VALUE;
            for (int f = 0; f < FEATURES; f++) {
                putAllFromCut(table);
                for (int c = 1; c <= MOST_FEATURE; c++) {
                    moveBelow(table, f, c - 1);
                    keepIfLess(table, f, c);
                }
            }
        }

        int settingFor(Table table, int instance) {
            return table.featureAt(feature, instance) < cut ? settingBelow : settingFromCut;
        }

        private void putAllFromCut(Table table) {
            Arrays.fill(sumsBelow, 0);
            Arrays.fill(sumsFromCut, 0);
            for (int s = 0; s < table.settings; s++) {
                for (int i = 0; i < table.instances; i++) {
                    if (table.isLearning(i)) {
                        sumsFromCut[s] += table.costAt(s, i);
                    }
                }
            }
        }

        /** As the cut rises by one, only the instances with this very value change sides. */
        private void moveBelow(Table table, int f, int value) {
            for (int i = 0; i < table.instances; i++) {
                if (table.isLearning(i) && table.featureAt(f, i) == value) {
                    for (int s = 0; s < table.settings; s++) {
                        sumsFromCut[s] -= table.costAt(s, i);
                        sumsBelow[s] += table.costAt(s, i);
                    }
                }
            }
        }

        /** The two sides share no instance, so each side's best is found by itself. */
        private void keepIfLess(Table table, int f, int c) {
            int below = leastOf(table, sumsBelow);
            int fromCut = leastOf(table, sumsFromCut);
            if (below == NONE || fromCut == NONE) {
                return;
            }
            int sum = sumsBelow[below] + sumsFromCut[fromCut];
            if (sum < leastSum) {
                leastSum = sum;
                feature = f;
                cut = c;
                settingBelow = below;
                settingFromCut = fromCut;
            }
        }

        private static int leastOf(Table table, int[] sums) {
            int best = NONE;
            for (int s = 0; s < table.settings && s < sums.length; s++) {
                if (table.isWhole(s) && (best == NONE || sums[s] < sums[best])) {
                    best = s;
                }
            }
            return best;
        }
    }
}
