import java.math.BigInteger;
import java.util.ArrayList;
import java.util.List;

/** The document's words taken one by one, HOUR by HOUR and PLAN by PLAN, with numbers of any size. */
final class Model {
    private static final int NONE = -1, UNKNOWN = -1001, OUTSIDE = -1002, NOT = -1003, FULL = -1004;

    private record Part(int stress, int hour, int cause) { }

    private record Step(int stress, int hours) { }

    record Share(BigInteger upper, BigInteger lower) implements Comparable<Share> {
        static Share of(long upper, long lower) {
            return least(BigInteger.valueOf(upper), BigInteger.valueOf(lower));
        }

        private static Share least(BigInteger upper, BigInteger lower) {
            BigInteger shared = upper.gcd(lower);
            return new Share(upper.divide(shared), lower.divide(shared));
        }

        Share plus(Share s) {
            return least(upper.multiply(s.lower).add(s.upper.multiply(lower)), lower.multiply(s.lower));
        }

        Share less(Share s) {
            return plus(new Share(s.upper.negate(), s.lower));
        }

        Share times(Share s) {
            return least(upper.multiply(s.upper), lower.multiply(s.lower));
        }

        Share by(Share s) {
            return least(upper.multiply(s.lower), lower.multiply(s.upper));
        }

        @Override
        public int compareTo(Share s) {
            return upper.multiply(s.lower).compareTo(s.upper.multiply(lower));
        }

        long told(int what) {
            return (what == 0 ? upper : lower).longValueExact();
        }
    }

    private final List<Part> parts = new ArrayList<>();
    private final List<Step> steps = new ArrayList<>();
    private final int[] speeds = {10, 20, 40, 80};
    private final int[] rules = {10, 1};

    private static boolean in(long v, long low, long high) {
        return v >= low && v <= high;
    }

    private static boolean partIn(int stress, int hour, int cause) {
        return in(stress, 0, 3) && in(hour, 1, 500) && in(cause, NONE, 2);
    }

    int unit(int stress, int hour, int cause) {
        if (!partIn(stress, hour, cause)) return OUTSIDE;
        if (parts.size() == 12) return FULL;
        parts.add(new Part(stress, hour, cause));
        return parts.size() - 1;
    }

    int set(int u, int stress, int hour, int cause) {
        if (!in(u, 0, parts.size() - 1)) return UNKNOWN;
        if (!partIn(stress, hour, cause)) return OUTSIDE;
        parts.set(u, new Part(stress, hour, cause));
        return 1;
    }

    int drop() {
        if (parts.isEmpty()) return NOT;
        parts.remove(parts.size() - 1);
        return parts.size();
    }

    private int useHour(Part p) {
        return p.hour * speeds[p.stress] / 10;
    }

    int told(int u, int what) {
        if (!in(u, 0, parts.size() - 1)) return UNKNOWN;
        if (!in(what, 0, 3)) return OUTSIDE;
        Part p = parts.get(u);
        return new int[] {p.stress, p.hour, p.cause, useHour(p)}[what];
    }

    private List<Part> looked(int set) {
        return parts.stream().filter(p -> (set & (1 << p.stress)) != 0).toList();
    }

    int count(int set, int what) {
        if (!in(set, 0, 15) || !in(what, 0, 7)) return OUTSIDE;
        List<Part> looked = looked(set);
        return switch (what) {
            case 0 -> looked.size();
            case 1 -> (int) looked.stream().filter(p -> p.cause >= 0).count();
            case 2 -> (int) looked.stream().filter(p -> p.cause < 0).count();
            case 3, 4, 5 -> (int) looked.stream().filter(p -> p.cause == what - 3).count();
            case 6 -> looked.stream().mapToInt(Part::hour).sum();
            default -> looked.stream().mapToInt(this::useHour).sum();
        };
    }

    int risk(int set, int t) {
        if (!in(set, 0, 15) || !in(t, 0, 500)) return OUTSIDE;
        return (int) looked(set).stream().filter(p -> p.hour >= t).count();
    }

    /** LEFT at each of the HOURS 0 .. 500. */
    private Share[] lefts(int set, int cause) {
        List<Part> looked = looked(set);
        Share[] lefts = new Share[501];
        Share left = Share.of(1, 1);
        for (int t = 0; t <= 500; t++) {
            int h = t;
            long failed = looked.stream().filter(p -> p.hour == h && p.cause != NONE && (cause == NONE || cause == p.cause)).count();
            long atRisk = looked.stream().filter(p -> p.hour >= h).count();
            if (failed > 0) left = left.times(Share.of(atRisk - failed, atRisk));
            lefts[t] = left;
        }
        return lefts;
    }

    private static boolean standingIn(int set, int cause) {
        return in(set, 0, 15) && in(cause, NONE, 2);
    }

    long left(int set, int cause, int t, int what) {
        if (!standingIn(set, cause) || !in(t, 0, 500) || !in(what, 0, 1)) return OUTSIDE;
        return lefts(set, cause)[t].told(what);
    }

    int time(int set, int cause, int a, int b) {
        if (!standingIn(set, cause) || !in(b, 1, 1000) || !in(a, 0, b)) return OUTSIDE;
        Share[] lefts = lefts(set, cause);
        for (int t = 0; t <= 500; t++) {
            if (lefts[t].compareTo(Share.of(a, b)) <= 0) return t;
        }
        return NONE;
    }

    private static Share sum(Share[] lefts, int from, int to) {
        Share sum = Share.of(0, 1);
        for (int t = from; t < to; t++) sum = sum.plus(lefts[t]);
        return sum;
    }

    long mean(int set, int cause, int h, int what) {
        if (!standingIn(set, cause) || !in(h, 1, 500) || !in(what, 0, 1)) return OUTSIDE;
        return sum(lefts(set, cause), 0, h).told(what);
    }

    long rest(int set, int cause, int b, int h, int what) {
        if (!standingIn(set, cause) || !in(h, 1, 500) || !in(b, 0, h - 1L) || !in(what, 0, 1)) return OUTSIDE;
        Share[] lefts = lefts(set, cause);
        if (lefts[b].upper().signum() == 0) return NOT;
        return sum(lefts, b, h).by(lefts[b]).told(what);
    }

    int runIn(int set, int cause, int h, int cost) {
        if (!standingIn(set, cause) || !in(h, 1, 500) || !in(cost, 0, 100)) return OUTSIDE;
        Share[] lefts = lefts(set, cause);
        int best = NONE;
        Share most = null;
        Share sum = Share.of(0, 1);
        for (int b = h - 1; b >= 0; b--) {
            sum = sum.plus(lefts[b]);
            if (lefts[b].upper().signum() == 0) continue;
            Share worth = sum.by(lefts[b]).less(Share.of((long) b * cost, 100));
            if (most == null || worth.compareTo(most) >= 0) {
                most = worth;
                best = b;
            }
        }
        return best;
    }

    int speed(int stress, int v) {
        if (!in(stress, 0, 3) || !in(v, 1, 1000)) return OUTSIDE;
        int was = speeds[stress];
        speeds[stress] = v;
        return was;
    }

    private static boolean lawIn(int b, int s) {
        return in(b, 1, 100000) && in(s, 1, 20);
    }

    int says(int b, int s, int stress) {
        if (!lawIn(b, s) || !in(stress, 0, 3)) return OUTSIDE;
        return stress == 0 ? b : says(b, s, stress - 1) * 10 / (10 + s);
    }

    int miss(int b, int s) {
        if (!lawIn(b, s)) return OUTSIDE;
        int sum = 0;
        for (int k = 0; k < 4; k++) {
            int half = time(1 << k, NONE, 1, 2);
            if (half != NONE) sum += Math.abs(half - says(b, s, k));
        }
        return sum;
    }

    int law(int b0, int d, int what) {
        if (!in(b0, 1, 100000) || !in(d, 0, 1000) || !in(b0 + 9L * d, 1, 100000) || !in(what, 0, 2)) return OUTSIDE;
        int[] halves = new int[4];
        int seen = 0;
        for (int k = 0; k < 4; k++) {
            halves[k] = time(1 << k, NONE, 1, 2);
            seen += halves[k] == NONE ? 0 : 1;
        }
        if (seen == 0) return NOT;
        int[] best = null;
        for (int s = 1; s <= 20; s++) {
            for (int i = 0; i < 10; i++) {
                int[] now = {b0 + i * d, s, 0};
                for (int k = 0; k < 4; k++) now[2] += halves[k] == NONE ? 0 : Math.abs(halves[k] - says(now[0], s, k));
                if (best == null || now[2] < best[2] || now[2] == best[2] && (now[0] < best[0] || now[0] == best[0] && s < best[1])) best = now;
            }
        }
        return best[what];
    }

    int step(int stress, int hours) {
        if (!in(stress, 0, 3) || !in(hours, 1, 500)) return OUTSIDE;
        if (steps.size() == 10) return FULL;
        steps.add(new Step(stress, hours));
        return steps.size();
    }

    int clear() {
        int had = steps.size();
        steps.clear();
        return had;
    }

    int used(int life) {
        if (!in(life, 1, 100000)) return OUTSIDE;
        long sum = 0;
        for (Step s : steps) sum += (long) s.hours * speeds[s.stress] * 10;
        return (int) (sum / life);
    }

    int fails(int life) {
        if (!in(life, 1, 100000)) return OUTSIDE;
        long tenths = 0;
        int hour = 0;
        for (Step s : steps) {
            for (int i = 0; i < s.hours; i++) {
                hour++;
                tenths += speeds[s.stress];
                if (tenths >= 10L * life) return hour;
            }
        }
        return NONE;
    }

    /** The chances that 0 .. n of n fail, part by part. */
    private static Share[] chances(int n, int j) {
        Share[] chances = {Share.of(1, 1)};
        for (int i = 0; i < n; i++) {
            Share[] next = new Share[chances.length + 1];
            for (int k = 0; k < next.length; k++) {
                Share stood = k < chances.length ? chances[k].times(Share.of(10 - j, 10)) : Share.of(0, 1);
                Share failed = k > 0 ? chances[k - 1].times(Share.of(j, 10)) : Share.of(0, 1);
                next[k] = stood.plus(failed);
            }
            chances = next;
        }
        return chances;
    }

    int end(int n, int k, int trust, int what) {
        if (!in(n, 1, 12) || !in(k, 0, n) || !in(trust, 50, 99) || !in(what, 0, 1)) return OUTSIDE;
        Share most = Share.of(100 - trust, 100);
        int low = 0;
        int high = 10;
        for (int j = 0; j <= 10; j++) {
            Share[] chances = chances(n, j);
            if (sum(chances, k, n + 1).compareTo(most) <= 0) low = Math.max(low, j);
            if (sum(chances, 0, k + 1).compareTo(most) <= 0) high = Math.min(high, j);
        }
        return what == 0 ? low : high;
    }

    int rule(int what, int v) {
        if (!in(what, 0, 1) || !(what == 0 ? in(v, 1, 500) : in(v, 0, 20))) return OUTSIDE;
        int was = rules[what];
        rules[what] = v;
        return was;
    }

    int plan(int money, int hours, int what) {
        if (!in(money, 0, 10000) || !in(hours, 1, 500) || !in(what, 0, 2)) return OUTSIDE;
        int hardHours = 0;
        while (hardHours * speeds[2] < hours * 10) hardHours++;
        int[] best = null;
        for (int hard = 0; hard <= 12; hard++) {
            for (int atUse = 0; atUse <= 12; atUse++) {
                int cost = (hard + atUse) * rules[0] + (atUse * hours + hard * hardHours) * rules[1];
                int[] now = {atUse, hard, cost};
                if (cost <= money && (best == null || isBetter(now, best))) best = now;
            }
        }
        return best[what];
    }

    private static boolean isBetter(int[] a, int[] b) {
        if (a[0] + a[1] != b[0] + b[1]) return a[0] + a[1] > b[0] + b[1];
        return a[0] != b[0] ? a[0] > b[0] : a[2] < b[2];
    }
}
