import java.util.List;

/** "An object is used for at most 512 calls after it has been made": each of the 512 is answered as the first ones are. */
public final class LongRunsTest {
    private static final int NONE = -1, UNKNOWN = -1001, OUTSIDE = -1002, NOT = -1003, FULL = -1004;
    private static final String[] REFUSED = {"set(0, 0, 1, 0)", "told(0, 0)", "unit(4, 1, 0)", "drop()", "count(16, 0)", "risk(0, 501)", "left(0, 0, 0, 2)",
        "time(0, 0, 1, 0)", "mean(0, 0, 0, 0)", "rest(0, 0, 1, 1, 0)", "runIn(0, 0, 0, 0)", "speed(0, 0)", "says(0, 1, 1)", "miss(0, 1)", "law(1, 0, 0)",
        "law(0, 0, 0)", "step(0, 0)", "used(0)", "fails(0)", "end(0, 0, 50, 0)", "rule(2, 0)", "plan(0, 0, 0)"};
    private static final long[] REFUSALS = {UNKNOWN, UNKNOWN, OUTSIDE, NOT, OUTSIDE, OUTSIDE, OUTSIDE,
        OUTSIDE, OUTSIDE, OUTSIDE, OUTSIDE, OUTSIDE, OUTSIDE, OUTSIDE, NOT,
        OUTSIDE, OUTSIDE, OUTSIDE, OUTSIDE, OUTSIDE, OUTSIDE, OUTSIDE};
    private static final String[] TURNS = {"unit(0, 20, 0)", "unit(0, 30, -1)", "unit(0, 40, 1)", "unit(0, 50, -1)", "unit(1, 25, 2)", "unit(1, 60, -1)",
        "unit(2, 12, 0)", "unit(2, 70, -1)", "unit(3, 7, 1)", "unit(3, 80, -1)", "unit(3, 90, 2)", "unit(0, 500, -1)"};

    public static void main(String[] args) {
        unitsToTheEnd();
        unitsComeAndGo();
        oneUnitSetAgain();
        stepsToTheEnd();
        stepsComeAndGo();
        speedsAndRulesInTurn();
        refusalsToTheEnd();
        sameQuestionAgain();
        objectsByTurns();
        Run.finish();
    }

    private static void unitsToTheEnd() {
        Run run = new Run("512 units");
        for (int i = 0; i < Run.MOST_CALLS; i++) {
            run.due("unit(" + i % 4 + ", " + (1 + i % 500) + ", " + (i % 4 - 1) + ")", i < 12 ? i : FULL);
        }
    }

    private static void unitsComeAndGo() {
        Run run = new Run("units come and go");
        for (int i = 0; i < 102; i++) {
            run.due("unit(1, " + (1 + i) + ", 0)", 0);
            run.due("unit(2, " + (500 - i) + ", -1)", 1);
            run.due("told(1, 1)", 500 - i);
            run.due("drop()", 1);
            run.due("drop()", 0);
        }
        run.due("drop()", NOT);
        run.due("count(15, 0)", 0);
    }

    private static void oneUnitSetAgain() {
        Run run = new Run("one unit set again", TURNS);
        for (int i = 1; i <= 499; i++) {
            run.due("set(11, " + i % 4 + ", " + i + ", " + (i % 4 - 1) + ")", 1);
        }
        // The 512th call: the others came to 484 HOURS, and the last was set to 499.
        run.due("count(15, 6)", 484 + 499);
    }

    private static void stepsToTheEnd() {
        Run run = new Run("511 steps and a clear");
        for (int i = 0; i < Run.MOST_CALLS - 1; i++) {
            run.due("step(" + i % 4 + ", " + (1 + i % 500) + ")", i < 10 ? i + 1 : FULL);
        }
        run.due("clear()", 10);
    }

    private static void stepsComeAndGo() {
        Run run = new Run("steps come and go");
        for (int i = 0; i < 128; i++) {
            run.due("step(0, " + (1 + i) + ")", 1);
            run.due("step(3, 1)", 2);
            run.due("fails(" + (1 + i) + ")", 1 + i);
            run.due("clear()", 2);
        }
    }

    private static void speedsAndRulesInTurn() {
        Run run = new Run("speeds and rules in turn");
        int[] speeds = {10, 20, 40, 80};
        int[] rules = {10, 1};
        for (int i = 0; i < 256; i++) {
            int v = 1 + i * 37 % 1000;
            run.due("speed(" + i % 4 + ", " + v + ")", speeds[i % 4]);
            speeds[i % 4] = v;
            int cost = 1 + i % 20;
            run.due("rule(" + i % 2 + ", " + cost + ")", rules[i % 2]);
            rules[i % 2] = cost;
        }
    }

    /** Behind 511 refused calls the 512th finds all as at first, whatever it asks. */
    private static void refusalsToTheEnd() {
        List<String> questions = Run.questions();
        for (String question : questions) {
            Run run = new Run("behind 511 refusals");
            for (int i = 0; i < Run.MOST_CALLS - 1; i++) {
                run.due(REFUSED[i % REFUSED.length], REFUSALS[i % REFUSED.length]);
            }
            run.due(question, new Run("at first").answer(question));
        }
    }

    /** What only asks changes nothing, however often it is asked. */
    private static void sameQuestionAgain() {
        String[] asked = {"told(11, 3)", "count(15, 7)", "risk(15, 41)", "left(15, -1, 500, 0)", "left(15, 1, 500, 1)", "time(15, -1, 1, 2)",
            "mean(15, -1, 500, 0)", "rest(15, -1, 12, 500, 0)", "runIn(15, -1, 500, 3)", "says(100000, 1, 3)", "miss(45, 3)", "law(30, 7, 0)",
            "law(30, 7, 1)", "law(30, 7, 2)", "used(7)", "fails(30)", "end(12, 6, 50, 0)", "end(12, 6, 99, 1)", "plan(700, 20, 0)"};
        String[] way = Run.joined(TURNS, "step(1, 20)", "step(2, 30)");
        for (String call : asked) {
            Run run = new Run("asked again", way);
            long first = run.answer(call);
            for (int i = way.length + 1; i < Run.MOST_CALLS; i++) {
                run.due(call, first);
            }
        }
    }

    private static void objectsByTurns() {
        Run one = new Run("one object");
        Run other = new Run("another object by turns");
        for (int i = 0; i < 12; i++) {
            one.due("unit(0, " + (1 + i) + ", 0)", i);
            other.due("count(15, 0)", 0);
            other.due("left(15, -1, 500, 0)", 1);
        }
        other.due("unit(1, 7, -1)", 0);
        one.due("speed(1, 1000)", 20);
        other.due("told(0, 3)", 14);
        one.due("step(1, 5)", 1);
        other.due("clear()", 0);
        other.due("fails(1)", NONE);
        one.due("rule(0, 500)", 10);
        one.due("rule(1, 20)", 1);
        other.due("plan(11, 1, 2)", 11);
        one.due("count(15, 0)", 12);
        one.due("used(50)", 1000);
    }
}
