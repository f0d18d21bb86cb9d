import java.util.Random;

/** All promises: seeded runs of as many calls as an object is good for, and wrong numbers in every place, against Model. */
public final class ModelRunsTest {
    private static final int RUNS = 400;
    private static final int[] EDGES = {Integer.MIN_VALUE, -1002, -2, -1, 0, 1, 2, 3, 4, 10, 12, 13, 15, 16, 20, 21, 49, 50, 99, 100, 101, 499, 500, 501,
        1000, 1001, 10000, 10001, 100000, 100001, Integer.MAX_VALUE};

    /** A call and the bounds between which its numbers mostly lie. */
    private record Call(String name, int... bounds) { }

    private static final Call[] CALLS = {
        new Call("unit", 0, 3, 1, 500, -1, 2), new Call("unit", 0, 0, 1, 500, -1, 0), new Call("unit", 0, 3, 1, 30, -1, 1),
        new Call("set", 0, 11, 0, 3, 1, 500, -1, 2), new Call("drop"), new Call("told", 0, 11, 0, 3), new Call("count", 0, 15, 0, 7),
        new Call("risk", 0, 15, 0, 500), new Call("left", 0, 15, -1, 2, 0, 500, 0, 1), new Call("left", 15, 15, -1, 0, 0, 500, 0, 1),
        new Call("time", 0, 15, -1, 2, 0, 20, 1, 20), new Call("time", 0, 15, -1, 2, 0, 1000, 1, 1000), new Call("mean", 0, 15, -1, 2, 1, 500, 0, 1),
        new Call("rest", 0, 15, -1, 2, 0, 499, 1, 500, 0, 1), new Call("rest", 15, 15, -1, 2, 0, 30, 1, 500, 0, 1),
        new Call("runIn", 0, 15, -1, 2, 1, 500, 0, 100), new Call("runIn", 15, 15, -1, 0, 1, 60, 0, 3), new Call("runIn", 1, 1, -1, 0, 300, 500, 0, 100),
        new Call("speed", 0, 3, 1, 1000), new Call("speed", 0, 3, 1, 40), new Call("says", 1, 100000, 1, 20, 0, 3), new Call("miss", 1, 700, 1, 20),
        new Call("law", 1, 300, 0, 50, 0, 2), new Call("law", 1, 100000, 0, 1000, 0, 2), new Call("step", 0, 3, 1, 500), new Call("step", 0, 3, 1, 9),
        new Call("clear"), new Call("used", 1, 100000), new Call("used", 1, 99), new Call("fails", 1, 100000), new Call("fails", 1, 3000),
        new Call("end", 1, 12, 0, 12, 50, 99, 0, 1), new Call("rule", 0, 1, 0, 20), new Call("rule", 0, 0, 1, 500), new Call("plan", 0, 10000, 1, 500, 0, 2),
        new Call("plan", 0, 500, 1, 20, 0, 2)};

    public static void main(String[] args) {
        for (int seed = 0; seed < RUNS; seed++) {
            run(new Random(seed), seed);
        }
        allEnds();
        turnsOfFailing();
        for (Call call : CALLS) {
            wrongNumbers(call);
        }
        for (int units = 0; units <= 12; units += 6) {
            for (Call call : CALLS) {
                everyEdgeWithEveryEdge(call, units);
            }
        }
        Run.finish();
    }

    private static void run(Random random, int seed) {
        TriedHarder object = new TriedHarder();
        Model model = new Model();
        for (int i = 0; i < Run.MOST_CALLS; i++) {
            Call call = CALLS[random.nextInt(CALLS.length)];
            boolean isTakingAway = call.name.equals("drop") || call.name.equals("clear");
            // Seldom enough that runs come to be full of UNITS and STEPS.
            if (isTakingAway && random.nextInt(3) > 0) {
                call = CALLS[0];
            }
            both("run " + seed, object, model, call.name, numbers(random, call.bounds));
        }
    }

    private static Object[] numbers(Random random, int[] bounds) {
        Object[] numbers = new Object[bounds.length / 2];
        for (int i = 0; i < numbers.length; i++) {
            int low = bounds[2 * i];
            int high = bounds[2 * i + 1];
            int dice = random.nextInt(150);
            numbers[i] = dice == 0 ? EDGES[random.nextInt(EDGES.length)] : dice < 4 ? low : dice < 7 ? high : dice == 7 ? low - 1 : dice == 8 ? high + 1
                    : low + random.nextInt(high - low + 1);
        }
        return numbers;
    }

    private static void both(String title, TriedHarder object, Model model, String name, Object[] numbers) {
        StringBuilder text = new StringBuilder(title).append(": ").append(name).append('(');
        for (int i = 0; i < numbers.length; i++) {
            text.append(i == 0 ? "" : ", ").append(numbers[i]);
        }
        Run.hold(text.append(')').toString(), Run.call(object, name, numbers), Run.call(model, name, numbers));
    }

    private static void allEnds() {
        Model model = new Model();
        TriedHarder object = new TriedHarder();
        for (int n = 1; n <= 12; n++) {
            for (int k = 0; k <= n; k++) {
                for (int trust = 50; trust <= 99; trust++) {
                    object = trust % 50 == 0 ? new TriedHarder() : object;
                    both("all ends", object, model, "end", new Object[] {n, k, trust, trust % 2});
                    both("all ends", object, model, "end", new Object[] {n, k, trust, 1 - trust % 2});
                }
            }
        }
    }

    /** Every way in which 12 UNITS leave one by one, each by failing or not: the lower numbers come to their greatest here. */
    private static void turnsOfFailing() {
        for (int way = 0; way < 4096; way += 3) {
            TriedHarder object = new TriedHarder();
            Model model = new Model();
            int gap = 1 + way % 41;
            for (int u = 0; u < 12; u++) {
                both("turns " + way, object, model, "unit", new Object[] {u % 4, 1 + u * gap, (way >> u & 1) - 1});
            }
            for (int cost = 0; cost <= 100; cost = 3 * cost + 1) {
                both("turns " + way, object, model, "runIn", new Object[] {15, -1, 500, cost});
                both("turns " + way, object, model, "runIn", new Object[] {15, 0, 12 * gap, cost});
            }
            both("turns " + way, object, model, "left", new Object[] {15, -1, 500, 1});
            both("turns " + way, object, model, "mean", new Object[] {15, -1, 500, 0});
            both("turns " + way, object, model, "mean", new Object[] {15, -1, 499, 1});
        }
    }

    /** Each number of a call in turn takes every edge, the others staying at an end of their bounds. */
    private static void wrongNumbers(Call call) {
        for (int others = 0; others < 2; others++) {
            for (int place = 0; place < call.bounds.length / 2; place++) {
                TriedHarder object = new TriedHarder();
                Model model = new Model();
                for (int u = 0; u < 5; u++) {
                    both("before wrong numbers", object, model, "unit", new Object[] {u % 4, 1 + 2 * u, u % 3});
                    both("before wrong numbers", object, model, "step", new Object[] {u % 4, 1 + 3 * u});
                }
                for (int edge : EDGES) {
                    Object[] numbers = new Object[call.bounds.length / 2];
                    for (int i = 0; i < numbers.length; i++) {
                        numbers[i] = i == place ? edge : call.bounds[2 * i + others];
                    }
                    both("wrong numbers", object, model, call.name, numbers);
                    both("behind wrong numbers", object, model, "count", new Object[] {15, 7});
                    both("behind wrong numbers", object, model, "used", new Object[] {1});
                    both("behind wrong numbers", object, model, "plan", new Object[] {700, 20, 2});
                }
            }
        }
    }

    /** All numbers of a call at once at their bounds, just beyond them, and at the ends of int. */
    private static void everyEdgeWithEveryEdge(Call call, int units) {
        int places = call.bounds.length / 2;
        int ways = 1;
        for (int i = 0; i < places; i++) {
            ways *= 6;
        }
        TriedHarder object = null;
        Model model = null;
        for (int way = 0; way < ways; way++) {
            if (way % 450 == 0) {
                object = new TriedHarder();
                model = new Model();
                beginWith(units, object, model);
            }
            Object[] numbers = new Object[places];
            int rest = way;
            for (int i = 0; i < places; i++) {
                int low = call.bounds[2 * i];
                int high = call.bounds[2 * i + 1];
                numbers[i] = new int[] {Integer.MIN_VALUE, low - 1, low, high, high + 1, Integer.MAX_VALUE}[rest % 6];
                rest /= 6;
            }
            both("every edge", object, model, call.name, numbers);
        }
        both("behind every edge", object, model, "count", new Object[] {15, 7});
        both("behind every edge", object, model, "used", new Object[] {1});
        both("behind every edge", object, model, "plan", new Object[] {700, 20, 2});
    }

    private static void beginWith(int units, TriedHarder object, Model model) {
        for (int u = 0; u < units; u++) {
            both("before every edge", object, model, "unit", new Object[] {u % 4, 1 + 7 * u, u % 4 - 1});
            both("before every edge", object, model, "step", new Object[] {u % 4, 1 + 3 * u});
        }
    }
}
