/** Promises 2 to 23: for each number of each call the last values within its bounds and the first ones beyond them. */
public final class BoundsTest {
    private static final int NONE = -1, UNKNOWN = -1001, OUTSIDE = -1002;

    /**
     * LEFT of all by any CAUSE: 5/6 from 10 on, 5/12 from 20 on, 5/24 from 40 on; of STRESS 0 alone 4/5, 8/15, 4/15; of
     * STRESS 1 alone 0 from 20 on. So the HOURS of half are 40 and 20.
     */
    private static final String[] SOME = {
        "unit(0, 10, 0)", "unit(0, 15, -1)", "unit(0, 20, 0)", "unit(1, 20, 1)", "unit(0, 40, 2)", "unit(0, 50, -1)",
        "step(1, 7)", "step(0, 50)", "speed(1, 25)", "rule(0, 7)", "rule(1, 2)"};

    public static void main(String[] args) {
        units();
        standing();
        shares();
        runsIn();
        laws();
        basesOfLaw();
        trials();
        ends();
        plans();
        wrapAround();
        whatIsWithinIsKept();
        Run.finish();
    }

    private static void outside(String call, int low, int high, long atLow, long atHigh) {
        Run.bounds(SOME, call, low, high, OUTSIDE, atLow, atHigh);
    }

    private static void unknown(String call, int low, int high, long atLow, long atHigh) {
        Run.bounds(SOME, call, low, high, UNKNOWN, atLow, atHigh);
    }

    private static void units() {
        outside("unit(#, 10, 0)", 0, 3, 6, 6);
        outside("unit(1, #, 0)", 1, 500, 6, 6);
        outside("unit(1, 10, #)", NONE, 2, 6, 6);
        unknown("set(#, 0, 1, 0)", 0, 5, 1, 1);
        outside("set(2, #, 1, 0)", 0, 3, 1, 1);
        outside("set(2, 0, #, 0)", 1, 500, 1, 1);
        outside("set(2, 0, 1, #)", NONE, 2, 1, 1);
        unknown("told(#, 1)", 0, 5, 10, 50);
        outside("told(4, #)", 0, 3, 0, 40);
        outside("count(#, 0)", 0, 15, 0, 6);
        outside("count(15, #)", 0, 7, 6, 185);
    }

    private static void standing() {
        outside("risk(#, 11)", 0, 15, 0, 5);
        outside("risk(15, #)", 0, 500, 6, 0);
        outside("left(#, -1, 500, 1)", 0, 15, 1, 24);
        outside("left(15, #, 500, 1)", NONE, 2, 24, 2);
        outside("left(15, -1, #, 1)", 0, 500, 1, 24);
        outside("left(15, -1, 500, #)", 0, 1, 5, 24);
        // 10 + 10 * 5/6 + 20 * 5/12 + 460 * 5/24 = 245/2.
        outside("mean(#, -1, 500, 0)", 0, 15, 500, 245);
        outside("mean(15, #, 500, 0)", NONE, 2, 245, 270);
        outside("mean(15, -1, #, 0)", 1, 500, 1, 245);
        outside("mean(15, -1, 500, #)", 0, 1, 245, 2);
    }

    private static void shares() {
        outside("time(#, -1, 1, 2)", 0, 15, NONE, 20);
        outside("time(15, #, 1, 2)", NONE, 2, 20, 40);
        outside("time(15, -1, #, 1)", 0, 1, NONE, 0);
        outside("time(15, -1, #, 7)", 0, 7, NONE, 0);
        outside("time(15, -1, #, 1000)", 0, 1000, NONE, 0);
        outside("time(15, -1, 0, #)", 1, 1000, NONE, NONE);
        outside("time(15, -1, 1, #)", 1, 1000, 0, NONE);
        // The least lower number is the upper one, where that is above 1.
        outside("time(15, -1, 999, #)", 999, 1000, 0, 10);
        outside("time(15, -1, 1000, #)", 1000, 1000, 0, 0);
    }

    private static void runsIn() {
        // From 10 on: 10 + 20 * 1/2 + 60 * 1/4.
        outside("rest(#, -1, 10, 100, 0)", 0, 15, 90, 35);
        outside("rest(15, #, 10, 100, 0)", NONE, 2, 35, 60);
        // To 41: 10 + 10 * 5/6 + 20 * 5/12 + 5/24 = 215/8.
        outside("rest(15, -1, #, 41, 0)", 0, 40, 215, 1);
        outside("rest(15, -1, #, 1, 0)", 0, 0, 1, 1);
        outside("rest(15, -1, #, 500, 0)", 0, 499, 245, 1);
        outside("rest(15, -1, 0, #, 0)", 1, 500, 1, 245);
        outside("rest(15, -1, 10, #, 0)", 11, 500, 1, 135);
        outside("rest(15, -1, 499, #, 0)", 500, 500, 1, 1);
        outside("rest(15, -1, 10, 100, #)", 0, 1, 35, 1);
        outside("runIn(#, -1, 500, 0)", 0, 15, 0, 40);
        outside("runIn(15, #, 60, 0)", NONE, 2, 0, 0);
        outside("runIn(15, #, 500, 0)", NONE, 2, 40, 40);
        outside("runIn(15, -1, #, 0)", 1, 500, 0, 40);
        // To 70 REST is 32 11/12 at 0 and 35 at 20.
        outside("runIn(15, -1, 70, #)", 0, 100, 20, 0);
    }

    private static void laws() {
        outside("speed(#, 5)", 0, 3, 10, 80);
        outside("speed(1, #)", 1, 1000, 25, 25);
        outside("says(#, 10, 1)", 1, 100000, 0, 50000);
        outside("says(100, #, 1)", 1, 20, 90, 33);
        outside("says(100, 1, #)", 0, 3, 100, 73);
        outside("miss(#, 10)", 1, 100000, 39 + 20, 99960 + 49980);
        outside("miss(100, #)", 1, 20, 60 + 70, 60 + 13);
    }

    private static void basesOfLaw() {
        outside("law(#, 0, 0)", 1, 100000, 1, 100000);
        outside("law(#, 1, 0)", 1, 99991, 10, 99991);
        outside("law(#, 1000, 0)", 1, 91000, 1, 91000);
        outside("law(1, #, 0)", 0, 1000, 1, 1);
        outside("law(91000, #, 0)", 0, 1000, 91000, 91000);
        outside("law(91001, #, 0)", 0, 999, 91001, 91001);
        outside("law(99991, #, 0)", 0, 1, 99991, 99991);
        outside("law(99992, #, 0)", 0, 0, 99992, 99992);
        outside("law(100000, #, 0)", 0, 0, 100000, 100000);
        outside("law(1, 0, #)", 0, 2, 1, 59);
    }

    private static void trials() {
        outside("step(#, 1)", 0, 3, 3, 3);
        outside("step(0, #)", 1, 500, 3, 3);
        outside("used(#)", 1, 100000, 6750, 0);
        outside("fails(#)", 1, 100000, 1, NONE);
    }

    private static void ends() {
        outside("end(#, 0, 50, 1)", 1, 12, 5, 1);
        outside("end(#, 1, 50, 1)", 1, 12, 10, 2);
        outside("end(#, 5, 50, 1)", 5, 12, 10, 5);
        outside("end(#, 12, 50, 0)", 12, 12, 9, 9);
        outside("end(1, #, 50, 0)", 0, 1, 0, 5);
        outside("end(5, #, 50, 0)", 0, 5, 0, 8);
        outside("end(12, #, 99, 0)", 0, 12, 0, 6);
        outside("end(5, 5, #, 0)", 50, 99, 8, 3);
        outside("end(5, 5, 50, #)", 0, 1, 8, 10);
    }

    private static void plans() {
        outside("rule(#, 1)", 0, 1, 7, 2);
        outside("rule(0, #)", 1, 500, 7, 7);
        outside("rule(1, #)", 0, 20, 2, 2);
        // A part costs 7 and 2 an HOUR: at 10 HOURS of use 27 at 0, and 13 at 2.
        outside("plan(#, 10, 1)", 0, 10000, 0, 12);
        // At 500 HOURS of use 1007 and 257: 18 parts in all, of which 7 at 0 cost 9876 with the others, and 8 too much.
        outside("plan(10000, #, 0)", 1, 500, 12, 7);
        outside("plan(10000, 10, #)", 0, 2, 12, 480);
    }

    /** Numbers that come back within their bounds if sums, products or shifts of them go around. */
    private static void wrapAround() {
        Run.refusedChangesNothing("around", OUTSIDE, SOME,
                "unit(32, 10, 0)", "unit(4, -2147483648, 2147483647)", "set(0, 32, 10, 0)", "speed(32, 5)", "says(100, 1, 32)", "step(32, 1)",
                "count(-2147483648, 0)", "count(65551, 0)", "count(-1, 0)", "left(-15, -1, 500, 1)",
                "rest(15, -1, 2147483647, -2147483648, 0)", "rest(15, -1, 0, -2147483648, 0)", "rest(15, -1, -1, -2147483648, 0)",
                "law(1, 477218589, 0)", "law(1, -1, 0)", "law(100000, -1000, 0)", "law(100001, -1, 0)", "law(2147483647, 1, 0)",
                "law(2147483647, 2147483647, 2)", "law(1, -477218588, 0)", "time(15, -1, -2147483648, -2147483648)",
                "time(15, -1, -1, -1)", "time(15, -1, 2147483647, 2147483647)", "time(15, -1, 1001, 1001)", "says(429496730, 10, 1)",
                "says(100, -10, 1)", "says(100, -11, 1)", "miss(429496730, 10)", "miss(100, -10)", "used(429496730)", "fails(429496730)",
                "end(-2147483648, -2147483648, 50, 0)", "end(13, 13, 50, 0)", "end(-1, -1, 50, 0)", "end(0, 0, 50, 0)",
                "plan(10000, 429496730, 0)", "plan(-2147483648, -2147483648, 0)");
        Run.refusedChangesNothing("around", UNKNOWN, SOME, "set(65536, 0, 1, 0)", "told(65536, 0)", "told(256, 0)", "told(-6, 0)");
    }

    private static void whatIsWithinIsKept() {
        Run run = new Run("kept");
        int[][] corners = {{0, 1, NONE}, {3, 500, 2}, {0, 500, 2}, {3, 1, NONE}};
        for (int u = 0; u < corners.length; u++) {
            run.due("unit(" + corners[u][0] + ", " + corners[u][1] + ", " + corners[u][2] + ")", u);
            dueUnit(run, u, corners[u]);
        }
        for (int u = 0; u < corners.length; u++) {
            int[] other = corners[corners.length - 1 - u];
            run.due("set(" + u + ", " + other[0] + ", " + other[1] + ", " + other[2] + ")", 1);
            dueUnit(run, u, other);
        }
        for (int stress = 0; stress < 4; stress++) {
            run.due("speed(" + stress + ", 1)", 10 << stress);
            run.due("speed(" + stress + ", 1000)", 1);
            run.due("speed(" + stress + ", 10)", 1000);
        }
        run.due("rule(0, 1)", 10);
        run.due("rule(0, 500)", 1);
        run.due("rule(0, 10)", 500);
        run.due("rule(1, 0)", 1);
        run.due("rule(1, 20)", 0);
        run.due("rule(1, 1)", 20);
        run.due("step(0, 1)", 1);
        run.due("used(1)", 100);
        run.due("step(3, 500)", 2);
        run.due("used(1)", 50100);
    }

    private static void dueUnit(Run run, int u, int[] of) {
        for (int what = 0; what < 3; what++) {
            run.due("told(" + u + ", " + what + ")", of[what]);
        }
    }
}
