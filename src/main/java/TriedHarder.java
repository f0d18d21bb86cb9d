/**
 * Parts run hot and hard so that they fail soon, and what may be said of them. Every promise that
 * is kept here, with its words in capitals, is told in the document DOC.md.
 */
public final class TriedHarder {
    public static final int NONE = -1, UNKNOWN = -1001, OUTSIDE = -1002, NOT = -1003, FULL = -1004;

    private static final int MOST_UNITS = 12, STRESSES = 4, LAST_SET = 15, LAST_CAUSE = 2, LAST_HOUR = 500;
    private static final int MOST_SPEED = 1000, MOST_BASE = 100000, MOST_LAW_STEP = 20;
    private static final int BASES = 10, MOST_BASE_STEP = 1000;
    private static final int MOST_STEPS = 10, MOST_LIFE = 100000;
    private static final int MOST_TRIED = 12, CHANCES = 10, LEAST_TRUST = 50, MOST_TRUST = 99;
    private static final int MOST_MONEY = 10000, MOST_PARTS = 12, MOST_PRICE = 500, MOST_HOUR_COST = 20;
    private static final int HARD_STRESS = 2;

    private final Units units;
    private final Standing standing;
    private final Trial trial;
    private final int[] speeds;
    private final int[] halves;
    private int price;
    private int hourCost;

    public TriedHarder() {
        units = new Units();
        standing = new Standing();
        trial = new Trial();
        speeds = new int[] {10, 20, 40, 80};
        halves = new int[STRESSES];
        price = 10;
        hourCost = 1;
    }

    // ---- units

    public int unit(int stress, int hour, int cause) {
        if (!isUnit(stress, hour, cause)) {
            return OUTSIDE;
        }
        if (units.many >= MOST_UNITS) {
            return FULL;
        }
        units.many++;
        units.put(units.many - 1, stress, hour, cause);
        return units.many - 1;
    }

    public int set(int u, int stress, int hour, int cause) {
        if (!units.has(u)) {
            return UNKNOWN;
        }
        if (!isUnit(stress, hour, cause)) {
            return OUTSIDE;
        }
        units.put(u, stress, hour, cause);
        return 1;
    }

    public int drop() {
        if (units.many == 0) {
            return NOT;
        }
        units.many--;
        return units.many;
    }

    public int told(int u, int what) {
        if (!units.has(u)) {
            return UNKNOWN;
        }
        switch (what) {
            case 0: return units.stress[u];
            case 1: return units.hour[u];
            case 2: return units.cause[u];
            case 3: return useHour(u);
            default: return OUTSIDE;
        }
    }

    public int count(int set, int what) {
        if (!isSet(set) || !isWithin(what, 0, 7)) {
            return OUTSIDE;
        }
        int sum = 0;
        for (int u = 0; u < units.many; u++) {
            if (units.isIn(u, set)) {
                sum += shareInCount(u, what);
            }
        }
        return sum;
    }

    private int shareInCount(int u, int what) {
        int cause = units.cause[u];
        switch (what) {
            case 0: return 1;
            case 1: return cause != NONE ? 1 : 0;
            case 2: return cause == NONE ? 1 : 0;
            case 6: return units.hour[u];
            case 7: return useHour(u);
            default: return cause == what - 3 ? 1 : 0;
        }
    }

    private int useHour(int u) {
        return units.hour[u] * speeds[units.stress[u]] / 10;
    }

    // ---- standing

    public int risk(int set, int t) {
        if (!isSet(set) || !isWithin(t, 0, LAST_HOUR)) {
            return OUTSIDE;
        }
        return units.atRisk(set, t);
    }

    public long left(int set, int cause, int t, int what) {
        if (!isSetByCause(set, cause) || !isWithin(t, 0, LAST_HOUR) || !isWithin(what, 0, 1)) {
            return OUTSIDE;
        }
        standing.look(units, set, cause);
        return leastTerms(standing.levelAt(t), standing.whole(), what);
    }

    public int time(int set, int cause, int a, int b) {
        if (!isSetByCause(set, cause) || !isWithin(b, 1, 1000) || !isWithin(a, 0, b)) {
            return OUTSIDE;
        }
        standing.look(units, set, cause);
        return standing.firstAtMost(a, b);
    }

    public long mean(int set, int cause, int h, int what) {
        if (!isSetByCause(set, cause) || !isWithin(h, 1, LAST_HOUR) || !isWithin(what, 0, 1)) {
            return OUTSIDE;
        }
        standing.look(units, set, cause);
        return leastTerms(standing.sumOf(0, h), standing.whole(), what);
    }

    public long rest(int set, int cause, int b, int h, int what) {
        if (!isSetByCause(set, cause) || !isWithin(h, 1, LAST_HOUR) || !isWithin(b, 0, h - 1)
                || !isWithin(what, 0, 1)) {
            return OUTSIDE;
        }
        standing.look(units, set, cause);
        if (standing.levelAt(b) == 0) {
            return NOT;
        }
        return leastTerms(standing.sumOf(b, h), standing.levelAt(b), what);
    }

    public int runIn(int set, int cause, int h, int cost) {
        if (!isSetByCause(set, cause) || !isWithin(h, 1, LAST_HOUR) || !isWithin(cost, 0, 100)) {
            return OUTSIDE;
        }
        standing.look(units, set, cause);
        return standing.bestRunIn(h, cost);
    }

    // ---- laws

    public int speed(int stress, int v) {
        if (!isStress(stress) || !isWithin(v, 1, MOST_SPEED)) {
            return OUTSIDE;
        }
        int was = speeds[stress];
        speeds[stress] = v;
        return was;
    }

    public int says(int b, int s, int stress) {
        if (!isLaw(b, s) || !isStress(stress)) {
            return OUTSIDE;
        }
        return lawAt(b, s, stress);
    }

    public int miss(int b, int s) {
        if (!isLaw(b, s)) {
            return OUTSIDE;
        }
        findHalves();
        return missOfHalves(b, s);
    }

    public int law(int b0, int d, int what) {
        if (!isWithin(b0, 1, MOST_BASE) || !isWithin(d, 0, MOST_BASE_STEP)
                || b0 + (BASES - 1) * d > MOST_BASE || !isWithin(what, 0, 2)) {
            return OUTSIDE;
        }
        if (!findHalves()) {
            return NOT;
        }
        int bestBase = b0;
        int bestStep = 1;
        int least = missOfHalves(b0, 1);
        for (int i = 0; i < BASES; i++) {
            for (int s = 1; s <= MOST_LAW_STEP; s++) {
                int missed = missOfHalves(b0 + i * d, s);
                if (missed < least) {
                    bestBase = b0 + i * d;
                    bestStep = s;
                    least = missed;
                }
            }
        }
        return what == 0 ? bestBase : what == 1 ? bestStep : least;
    }

    /** Kept in a row, since a search through 200 LAWS holds each of them against the same HOURS. */
    private boolean findHalves() {
        boolean found = false;
        for (int k = 0; k < STRESSES; k++) {
            standing.look(units, 1 << k, NONE);
            halves[k] = standing.firstAtMost(1, 2);
            found = found || halves[k] != NONE;
        }
        return found;
    }

    private int missOfHalves(int b, int s) {
        int sum = 0;
        for (int k = 0; k < STRESSES; k++) {
            if (halves[k] != NONE) {
                sum += Math.abs(halves[k] - lawAt(b, s, k));
            }
        }
        return sum;
    }

    private static int lawAt(int b, int s, int stress) {
        int hour = b;
        for (int k = 0; k < stress; k++) {
            hour = cut(hour * 10, 10 + s);
        }
        return hour;
    }

    // ---- trials

    public int step(int stress, int hours) {
        if (!isStress(stress) || !isWithin(hours, 1, LAST_HOUR)) {
            return OUTSIDE;
        }
        if (trial.many >= MOST_STEPS) {
            return FULL;
        }
        trial.stress[trial.many] = stress;
        trial.hours[trial.many] = hours;
        trial.many++;
        return trial.many;
    }

    public int clear() {
        int had = trial.many;
        trial.many = 0;
        return had;
    }

    public int used(int life) {
        if (!isWithin(life, 1, MOST_LIFE)) {
            return OUTSIDE;
        }
        int sum = 0;
        for (int i = 0; i < trial.many; i++) {
            sum += trial.hours[i] * speeds[trial.stress[i]] * 10;
        }
        return cut(sum, life);
    }

    public int fails(int life) {
        if (!isWithin(life, 1, MOST_LIFE)) {
            return OUTSIDE;
        }
        int tenthsToGo = life * 10;
        int hoursBefore = 0;
        for (int i = 0; i < trial.many; i++) {
            int tenthsAnHour = speeds[trial.stress[i]];
            if (trial.hours[i] * tenthsAnHour >= tenthsToGo) {
                return hoursBefore + roundedUp(tenthsToGo, tenthsAnHour);
            }
            tenthsToGo -= trial.hours[i] * tenthsAnHour;
            hoursBefore += trial.hours[i];
        }
        return NONE;
    }

    // ---- ends, plans

    public int end(int n, int k, int trust, int what) {
        if (!isWithin(n, 1, MOST_TRIED) || !isWithin(k, 0, n)
                || !isWithin(trust, LEAST_TRUST, MOST_TRUST) || !isWithin(what, 0, 1)) {
            return OUTSIDE;
        }
        return what == 0 ? lowEnd(n, k, 100 - trust) : highEnd(n, k, 100 - trust);
    }

    private static int lowEnd(int n, int k, int doubt) {
        for (int j = CHANCES; j > 0; j--) {
            if (isAtMost(doubt, n, casesOf(n, k, n, j))) {
                return j;
            }
        }
        return 0;
    }

    private static int highEnd(int n, int k, int doubt) {
        for (int j = 0; j < CHANCES; j++) {
            if (isAtMost(doubt, n, casesOf(n, 0, k, j))) {
                return j;
            }
        }
        return CHANCES;
    }

    /** Counts of like cases hold the chance exactly; they are 10 to the 12th at most, so a long has room. */
    private static boolean isAtMost(int hundredths, int n, long cases) {
        return cases * 100 <= hundredths * power(CHANCES, n);
    }

    /** Of the 10 to the nth like cases of n parts, those in which first to last of the parts fail. */
    private static long casesOf(int n, int first, int last, int j) {
        long sum = 0;
        for (int failed = first; failed <= last; failed++) {
            sum += ways(n, failed) * power(j, failed) * power(CHANCES - j, n - failed);
        }
        return sum;
    }

    private static long ways(int n, int k) {
        long ways = 1;
        for (int i = 0; i < k; i++) {
            ways = ways * (n - i) / (i + 1);
        }
        return ways;
    }

    private static long power(int base, int times) {
        long power = 1;
        for (int i = 0; i < times; i++) {
            power *= base;
        }
        return power;
    }

    public int rule(int what, int v) {
        if (what == 0 && isWithin(v, 1, MOST_PRICE)) {
            int was = price;
            price = v;
            return was;
        }
        if (what == 1 && isWithin(v, 0, MOST_HOUR_COST)) {
            int was = hourCost;
            hourCost = v;
            return was;
        }
        return OUTSIDE;
    }

    public int plan(int money, int hours, int what) {
        if (!isWithin(money, 0, MOST_MONEY) || !isWithin(hours, 1, LAST_HOUR) || !isWithin(what, 0, 2)) {
            return OUTSIDE;
        }
        int costAtUse = price + hours * hourCost;
        int costHard = price + roundedUp(hours * 10, speeds[HARD_STRESS]) * hourCost;
        // The better plans come first, so the first that the money buys is the one; no part at all costs nothing.
        for (int parts = 2 * MOST_PARTS; parts > 0; parts--) {
            for (int atUse = Math.min(parts, MOST_PARTS); atUse >= Math.max(0, parts - MOST_PARTS); atUse--) {
                int cost = atUse * costAtUse + (parts - atUse) * costHard;
                if (cost <= money) {
                    return what == 0 ? atUse : what == 1 ? parts - atUse : cost;
                }
            }
        }
        return 0;
    }

    // ---- bounds

    private static boolean isWithin(int v, int low, int high) {
        return low <= v && v <= high;
    }

    private static boolean isStress(int stress) {
        return isWithin(stress, 0, STRESSES - 1);
    }

    private static boolean isUnit(int stress, int hour, int cause) {
        return isStress(stress) && isWithin(hour, 1, LAST_HOUR) && isWithin(cause, NONE, LAST_CAUSE);
    }

    private static boolean isSet(int set) {
        return isWithin(set, 0, LAST_SET);
    }

    private static boolean isSetByCause(int set, int cause) {
        return isSet(set) && isWithin(cause, NONE, LAST_CAUSE);
    }

    private static boolean isLaw(int b, int s) {
        return isWithin(b, 1, MOST_BASE) && isWithin(s, 1, MOST_LAW_STEP);
    }

    // ---- numbers

    private static int cut(int upper, int lower) {
        return lower > 0 ? upper / lower : 0;
    }

    private static int roundedUp(int upper, int lower) {
        return cut(upper + lower - 1, lower);
    }

    private static long leastTerms(long upper, long lower, int what) {
        long shared = sharedFactor(upper, lower);
        long asked = what == 0 ? upper : lower;
        return shared > 0 ? asked / shared : asked;
    }

    private static long sharedFactor(long a, long b) {
        long greater = a;
        long lesser = b;
        // No two longs need more than 92 rounds.
        for (int i = 0; i < 100 && lesser != 0; i++) {
            long over = greater % lesser;
            greater = lesser;
            lesser = over;
        }
        return greater;
    }

    /** The UNITS, the first so many of each row. */
    private static final class Units {
        final int[] stress = new int[MOST_UNITS];
        final int[] hour = new int[MOST_UNITS];
        final int[] cause = new int[MOST_UNITS];
        int many = 0;

        boolean has(int u) {
            return isWithin(u, 0, many - 1);
        }

        void put(int u, int newStress, int newHour, int newCause) {
            if (has(u)) {
                stress[u] = newStress;
                hour[u] = newHour;
                cause[u] = newCause;
            }
        }

        boolean isIn(int u, int set) {
            return ((set >> stress[u]) & 1) == 1;
        }

        int atRisk(int set, int t) {
            int sum = 0;
            for (int u = 0; u < many; u++) {
                if (isIn(u, set) && hour[u] >= t) {
                    sum++;
                }
            }
            return sum;
        }

        boolean hasFailed(int u, int set, int by) {
            return isIn(u, set) && cause[u] != NONE && (by == NONE || cause[u] == by);
        }

        int failedAt(int set, int by, int t) {
            int sum = 0;
            for (int u = 0; u < many; u++) {
                if (hasFailed(u, set, by) && hour[u] == t) {
                    sum++;
                }
            }
            return sum;
        }

        int nextFailure(int set, int by, int after) {
            int next = NONE;
            for (int u = 0; u < many; u++) {
                if (hasFailed(u, set, by) && hour[u] > after && (next == NONE || hour[u] < next)) {
                    next = hour[u];
                }
            }
            return next;
        }
    }

    /**
     * STANDING as a row of pieces, since LEFT changes only where a UNIT failed: piece i begins at
     * from[i]. All pieces are held over one lower number, level[0]: so sums need no fractions. It
     * is a product of different numbers up to 12, below 2 to the 29th.
     */
    private static final class Standing {
        final int[] from = new int[MOST_UNITS + 1];
        final long[] level = new long[MOST_UNITS + 1];
        int pieces = 0;

        void look(Units units, int set, int cause) {
            from[0] = 0;
            level[0] = 1;
            pieces = 1;
            int hour = units.nextFailure(set, cause, 0);
            for (int i = 1; i < from.length && hour != NONE; i++) {
                int atRisk = units.atRisk(set, hour);
                from[i] = hour;
                level[i] = level[i - 1] * (atRisk - units.failedAt(set, cause, hour));
                raiseAllBefore(i, atRisk);
                pieces = i + 1;
                hour = units.nextFailure(set, cause, hour);
            }
        }

        void raiseAllBefore(int piece, int factor) {
            for (int i = 0; i < piece; i++) {
                level[i] *= factor;
            }
        }

        long whole() {
            return level[0];
        }

        long levelAt(int t) {
            int at = 0;
            for (int i = 1; i < pieces && from[i] <= t; i++) {
                at = i;
            }
            return level[at];
        }

        int firstAtMost(int a, int b) {
            for (int i = 0; i < pieces; i++) {
                if (level[i] * b <= whole() * a) {
                    return from[i];
                }
            }
            return NONE;
        }

        long sumOf(int begin, int end) {
            long sum = 0;
            for (int i = 0; i < pieces; i++) {
                int behind = i + 1 < pieces ? from[i + 1] : end;
                int hours = Math.min(behind, end) - Math.max(from[i], begin);
                sum += level[i] * Math.max(0, hours);
            }
            return sum;
        }

        /**
         * Within a piece each HOUR more of RUN IN takes 1 from REST, so only the beginnings of pieces can
         * be the best. In least terms the lower number of REST is 12 * 10 * 8 * 6 * 4 * 2 at most (those
         * who stood at one failure cancel against those AT RISK at the next, unless another UNIT left
         * between), so the products compared stay within a long; without least terms they would not.
         */
        int bestRunIn(int h, int cost) {
            int best = 0;
            long bestUpper = 0;
            long bestLower = 0;
            for (int i = 0; i < pieces && from[i] < h && level[i] > 0; i++) {
                long sum = sumOf(from[i], h);
                long lower = leastTerms(sum, level[i], 1);
                long upper = 100 * leastTerms(sum, level[i], 0) - from[i] * cost * lower;
                if (i == 0 || upper * bestLower > bestUpper * lower) {
                    best = from[i];
                    bestUpper = upper;
                    bestLower = lower;
                }
            }
            return best;
        }
    }

    /** THE TRIAL, the first so many of each row. */
    private static final class Trial {
        final int[] stress = new int[MOST_STEPS];
        final int[] hours = new int[MOST_STEPS];
        int many = 0;
    }
}
