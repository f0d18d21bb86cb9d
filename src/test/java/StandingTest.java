/** Promises 7 to 12: risk, left, time, mean, rest, runIn. */
public final class StandingTest {
    private static final int NONE = -1, OUTSIDE = -1002, NOT = -1003;
    /** By any CAUSE: 5/6 from 10 on, 5/12 from 20 on (4 at risk, 2 fail), 5/24 from 40 on; one is taken off at 15. */
    private static final String[] SIX = {
        "unit(0, 10, 0)", "unit(0, 15, -1)", "unit(0, 20, 0)", "unit(1, 20, 1)", "unit(0, 40, 2)", "unit(0, 50, -1)"};

    public static void main(String[] args) {
        risk();
        left();
        time();
        mean();
        rest();
        runIn();
        dearestNumbers();
        Run.finish();
    }

    private static void risk() {
        Run run = new Run("risk", SIX);
        run.dueEach(6, "risk(15, 0)", "risk(3, 10)");
        run.dueEach(5, "risk(15, 11)", "risk(15, 15)", "risk(1, 0)");
        run.dueEach(4, "risk(15, 16)", "risk(15, 20)", "risk(1, 11)");
        run.dueEach(1, "risk(2, 20)", "risk(15, 50)");
        run.dueEach(0, "risk(2, 21)", "risk(15, 51)", "risk(15, 500)", "risk(0, 0)", "risk(12, 0)");
        run.dueEach(OUTSIDE, "risk(-1, 0)", "risk(16, 0)", "risk(15, -1)", "risk(15, 501)", "risk(1, -2147483648)");
        Run.refusedChangesNothing("risk", OUTSIDE, SIX, "risk(16, 0)", "risk(1, 501)");
    }

    private static void fraction(Run run, String callWithoutWhat, long upper, long lower) {
        run.due(callWithoutWhat + ", 0)", upper);
        run.due(callWithoutWhat + ", 1)", lower);
    }

    private static void left() {
        Run empty = new Run("left without units");
        fraction(empty, "left(15, -1, 500", 1, 1);
        fraction(empty, "left(0, 2, 0", 1, 1);

        Run run = new Run("left", SIX);
        fraction(run, "left(15, -1, 0", 1, 1);
        fraction(run, "left(15, -1, 9", 1, 1);
        fraction(run, "left(15, -1, 10", 5, 6);
        fraction(run, "left(15, -1, 19", 5, 6);
        fraction(run, "left(15, -1, 20", 5, 12);
        fraction(run, "left(15, -1, 39", 5, 12);
        fraction(run, "left(15, -1, 40", 5, 24);
        fraction(run, "left(15, -1, 500", 5, 24);
        fraction(run, "left(15, 0, 20", 5, 8);
        fraction(run, "left(15, 1, 500", 3, 4);
        fraction(run, "left(15, 2, 500", 1, 2);
        fraction(run, "left(1, 0, 20", 8, 15);
        fraction(run, "left(2, -1, 20", 0, 1);
        fraction(run, "left(2, 0, 20", 1, 1);
        fraction(run, "left(0, -1, 500", 1, 1);
        run.dueEach(OUTSIDE, "left(-1, 0, 0, 0)", "left(16, 0, 0, 0)", "left(1, -2, 0, 0)", "left(1, 3, 0, 0)", "left(1, 0, -1, 0)",
                "left(1, 0, 501, 0)", "left(1, 0, 0, -1)", "left(1, 0, 0, 2)");
        Run.refusedChangesNothing("left", OUTSIDE, SIX, "left(16, 0, 0, 0)", "left(1, 3, 0, 0)", "left(1, 0, 501, 0)", "left(1, 0, 0, 2)");

        Run last = new Run("left at the last hour", "unit(0, 500, 0)", "unit(0, 500, -1)");
        fraction(last, "left(1, -1, 499", 1, 1);
        fraction(last, "left(1, -1, 500", 1, 2);
        Run first = new Run("left at the first hour", "unit(0, 1, 0)");
        fraction(first, "left(1, -1, 0", 1, 1);
        fraction(first, "left(1, -1, 1", 0, 1);
    }

    private static void time() {
        Run run = new Run("time", SIX);
        run.dueEach(0, "time(15, -1, 1, 1)", "time(15, -1, 1000, 1000)", "time(0, -1, 1, 1)");
        run.dueEach(10, "time(15, -1, 999, 1000)", "time(15, -1, 5, 6)");
        run.dueEach(20, "time(15, -1, 833, 1000)", "time(15, -1, 5, 12)", "time(2, -1, 0, 1)", "time(15, 0, 5, 8)", "time(15, 1, 3, 4)");
        run.dueEach(40, "time(15, -1, 416, 1000)", "time(15, -1, 5, 24)", "time(15, 2, 1, 2)");
        run.dueEach(NONE, "time(15, -1, 208, 1000)", "time(15, -1, 0, 1)", "time(15, 0, 1, 2)", "time(0, -1, 0, 1)");
        run.dueEach(OUTSIDE, "time(-1, 0, 1, 2)", "time(16, 0, 1, 2)", "time(1, -2, 1, 2)", "time(1, 3, 1, 2)", "time(1, 0, -1, 2)",
                "time(1, 0, 3, 2)", "time(1, 0, 0, 0)", "time(1, 0, 1, 1001)", "time(1, 0, 0, -1)", "time(1, 0, -2147483648, -2147483648)");
        Run.refusedChangesNothing("time", OUTSIDE, SIX, "time(16, 0, 1, 2)", "time(1, 3, 1, 2)", "time(1, 0, 3, 2)", "time(1, 0, 0, 0)");
        Run last = new Run("time at the last hour", "unit(0, 500, 0)");
        last.due("time(1, -1, 1, 2)", 500);
    }

    private static void mean() {
        Run empty = new Run("mean without units");
        fraction(empty, "mean(15, -1, 500", 500, 1);

        Run run = new Run("mean", SIX);
        fraction(run, "mean(15, -1, 1", 1, 1);
        fraction(run, "mean(15, -1, 10", 10, 1);
        fraction(run, "mean(15, -1, 11", 65, 6);
        // 10 + 10 * 5/6 + 20 * 5/12 + 60 * 5/24
        fraction(run, "mean(15, -1, 100", 235, 6);
        fraction(run, "mean(2, -1, 500", 20, 1);
        fraction(run, "mean(15, 2, 500", 270, 1);
        run.dueEach(OUTSIDE, "mean(-1, 0, 1, 0)", "mean(16, 0, 1, 0)", "mean(1, -2, 1, 0)", "mean(1, 3, 1, 0)", "mean(1, 0, 0, 0)",
                "mean(1, 0, 501, 0)", "mean(1, 0, 1, -1)", "mean(1, 0, 1, 2)");
        Run.refusedChangesNothing("mean", OUTSIDE, SIX, "mean(16, 0, 1, 0)", "mean(1, 3, 1, 0)", "mean(1, 0, 0, 0)", "mean(1, 0, 1, 2)");
    }

    private static void rest() {
        Run empty = new Run("rest without units");
        fraction(empty, "rest(15, -1, 499, 500", 1, 1);
        fraction(empty, "rest(15, -1, 0, 1", 1, 1);

        Run run = new Run("rest", SIX);
        fraction(run, "rest(15, -1, 0, 100", 235, 6);
        // from 10 on: 10 + 20 * 1/2 + 60 * 1/4
        fraction(run, "rest(15, -1, 10, 100", 35, 1);
        fraction(run, "rest(15, -1, 9, 11", 11, 6);
        fraction(run, "rest(15, -1, 40, 41", 1, 1);
        fraction(run, "rest(2, -1, 19, 500", 1, 1);
        run.dueEach(NOT, "rest(2, -1, 20, 21, 0)", "rest(2, -1, 20, 500, 1)", "rest(2, 1, 499, 500, 0)");
        run.dueEach(OUTSIDE, "rest(-1, 0, 0, 1, 0)", "rest(16, 0, 0, 1, 0)", "rest(1, -2, 0, 1, 0)", "rest(1, 3, 0, 1, 0)", "rest(1, 0, -1, 1, 0)",
                "rest(1, 0, 1, 1, 0)", "rest(1, 0, 500, 500, 0)", "rest(1, 0, 0, 0, 0)", "rest(1, 0, 0, 501, 0)", "rest(1, 0, 0, 1, -1)",
                "rest(1, 0, 0, 1, 2)", "rest(1, 0, 0, -2147483648, 0)", "rest(1, 0, 2147483647, 500, 0)");
        run.dueEach(OUTSIDE, "rest(2, -1, 20, 21, 2)", "rest(2, -1, 20, 20, 0)", "rest(2, -1, 20, 501, 0)");
        Run.refusedChangesNothing("rest", OUTSIDE, SIX, "rest(16, 0, 0, 1, 0)", "rest(1, 0, 1, 1, 0)", "rest(1, 0, 0, 1, 2)");
        Run.refusedChangesNothing("rest", NOT, SIX, "rest(2, -1, 20, 21, 0)");
    }

    private static void runIn() {
        Run empty = new Run("runIn without units");
        empty.dueEach(0, "runIn(15, -1, 500, 0)", "runIn(15, -1, 1, 100)", "runIn(0, 2, 500, 50)");

        // Two early failures of three: behind HOUR 2 nothing fails before 100.
        Run early = new Run("runIn behind early failures", "unit(0, 1, 0)", "unit(0, 2, 0)", "unit(0, 100, 1)");
        early.due("runIn(1, -1, 50, 0)", 2);
        early.due("runIn(1, -1, 50, 100)", 2);
        early.due("runIn(1, 1, 50, 0)", 0);
        early.due("runIn(1, -1, 2, 0)", 0);
        early.due("runIn(1, -1, 1, 0)", 0);
        // To HOUR 3: REST is 2 at 0 (1 + 2/3 + 1/3), 3/2 at 1, 1 at 2.
        early.due("runIn(1, -1, 3, 0)", 0);
        // To HOUR 5: 8/3 at 0 (1 + 2/3 + 3 * 1/3), 5/2 at 1, 3 at 2: 3 less 2 * 16 hundredths is above, of 17 below.
        early.due("runIn(1, -1, 5, 0)", 2);
        early.due("runIn(1, -1, 5, 16)", 2);
        early.due("runIn(1, -1, 5, 17)", 0);
        // To HOUR 4: 7/3 at 0 (1 + 2/3 + 2/3), 2 at 1, 2 at 2.
        early.due("runIn(1, -1, 4, 0)", 0);

        // One of two fails at 2: to HOUR 4 REST is 3 at 0 (2 + 2 * 1/2) and 2 at 2; to 6 it is 4 and 4: the least of like ones.
        Run like = new Run("runIn of like ones", "unit(0, 2, 0)", "unit(0, 400, 0)");
        like.due("runIn(1, -1, 6, 0)", 0);
        like.due("runIn(1, -1, 7, 0)", 2);
        // To HOUR 8 it is 5 at 0 and 6 at 2: at 50 hundredths an HOUR they are alike.
        like.due("runIn(1, -1, 8, 49)", 2);
        like.due("runIn(1, -1, 8, 50)", 0);
        like.due("runIn(1, -1, 8, 51)", 0);

        // To HOUR 80 REST is 60 at 0 (10 + 60 * 3/4 + 10 * 1/2) and 66 2/3 at 10 (60 + 10 * 2/3): 6 2/3 are 66 2/3 hundredths an HOUR.
        Run thirds = new Run("runIn of thirds", "unit(0, 10, 0)", "unit(0, 70, 1)", "unit(0, 400, -1)", "unit(0, 400, -1)");
        thirds.due("runIn(1, -1, 80, 66)", 10);
        thirds.due("runIn(1, -1, 80, 67)", 0);

        Run refused = new Run("runIn refused", SIX);
        refused.dueEach(OUTSIDE, "runIn(-1, 0, 1, 0)", "runIn(16, 0, 1, 0)", "runIn(1, -2, 1, 0)", "runIn(1, 3, 1, 0)", "runIn(1, 0, 0, 0)",
                "runIn(1, 0, 501, 0)", "runIn(1, 0, 1, -1)", "runIn(1, 0, 1, 101)");
        Run.refusedChangesNothing("runIn", OUTSIDE, SIX, "runIn(16, 0, 1, 0)", "runIn(1, 3, 1, 0)", "runIn(1, 0, 0, 0)", "runIn(1, 0, 1, 101)");
    }

    /** A failure and one taken off by turns: here nothing cancels, and the lower number is the greatest there is. */
    private static void dearestNumbers() {
        Run run = new Run("dearest numbers");
        for (int pair = 0; pair < 6; pair++) {
            run.answer("unit(0, " + (480 + 2 * pair) + ", 0)");
            run.answer("unit(0, " + (481 + 2 * pair) + ", -1)");
        }
        fraction(run, "left(1, -1, 500", 231, 1024);
        fraction(run, "rest(1, -1, 0, 500", 751547, 1536);
        fraction(run, "mean(1, 0, 500", 751547, 1536);
        run.due("runIn(1, -1, 500, 0)", 0);
        run.due("runIn(1, -1, 500, 100)", 0);

        Run twelve = new Run("twelve failures one by one");
        for (int u = 0; u < 12; u++) {
            twelve.answer("unit(" + u % 4 + ", " + (u + 1) * 40 + ", " + u % 3 + ")");
        }
        for (int u = 0; u < 11; u++) {
            int g = gcd(11 - u, 12);
            fraction(twelve, "left(15, -1, " + ((u + 1) * 40 + 39), (11 - u) / g, 12 / g);
        }
        fraction(twelve, "left(15, -1, 480", 0, 1);
        fraction(twelve, "mean(15, -1, 500", 260, 1);
        twelve.due("time(15, -1, 1, 2)", 240);
    }

    private static int gcd(int a, int b) {
        return b == 0 ? a : gcd(b, a % b);
    }
}
