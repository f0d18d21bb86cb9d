/** "REFUSALS, of several the first in this order: UNKNOWN .., OUTSIDE .., NOT .., FULL. What is refused changes nothing." */
public final class RefusalsTest {
    private static final int UNKNOWN = -1001, OUTSIDE = -1002, NOT = -1003, FULL = -1004;
    private static final String[] NO_UNITS = {"step(1, 7)", "step(0, 50)", "speed(1, 25)", "rule(0, 7)", "rule(1, 2)"};
    /** At STRESS 1 nothing is LEFT from 20 on; at STRESS 0 LEFT comes to 2 / 3. */
    private static final String[] ALL_FAILED_AT_1 = Run.joined(NO_UNITS,
            "unit(1, 10, 0)", "unit(1, 20, 1)", "unit(0, 30, 2)", "unit(0, 40, -1)", "unit(0, 40, -1)");
    /** LEFT comes to 2 / 3 at STRESS 0 and to 4 / 7 at STRESS 3: at no STRESS to 1 / 2, while that of all together, 7 / 15, does. */
    private static final String[] NO_HALF = Run.joined(NO_UNITS,
            "unit(0, 30, 2)", "unit(0, 40, -1)", "unit(0, 40, -1)", "unit(3, 10, 0)", "unit(3, 10, 1)", "unit(3, 11, 2)", "unit(3, 15, -1)",
            "unit(3, 15, -1)", "unit(3, 15, -1)", "unit(3, 15, -1)");

    public static void main(String[] args) {
        fullOfUnits();
        fullOfSteps();
        unknownBeforeOutside();
        unknownWithoutUnits();
        noUnitToDrop();
        nothingLeft();
        noHalf();
        severalNumbersOutside();
        emptyAndFullStates();
        clearIsNeverRefused();
        Run.finish();
    }

    private static String[] twelveUnits() {
        String[] way = NO_UNITS;
        for (int u = 0; u < 12; u++) {
            way = Run.joined(way, "unit(" + u % 4 + ", " + (10 + 3 * u) + ", " + (u % 4 - 1) + ")");
        }
        return way;
    }

    private static String[] tenSteps() {
        String[] way = {"unit(0, 10, 0)", "speed(1, 25)", "rule(0, 7)"};
        for (int i = 0; i < 10; i++) {
            way = Run.joined(way, "step(" + i % 4 + ", " + (1 + 5 * i) + ")");
        }
        return way;
    }

    private static void fullOfUnits() {
        String[] full = twelveUnits();
        Run.refusedChangesNothing("full", FULL, full, "unit(0, 1, -1)", "unit(3, 500, 2)", "unit(1, 10, 0)");
        Run.refusedChangesNothing("outside before full", OUTSIDE, full, Run.beyond("unit(#, 10, 0)", 0, 3));
        Run.refusedChangesNothing("outside before full", OUTSIDE, full, Run.beyond("unit(1, #, 0)", 1, 500));
        Run.refusedChangesNothing("outside before full", OUTSIDE, full, Run.beyond("unit(1, 10, #)", -1, 2));
        Run.bounds(full, "set(#, 0, 1, 0)", 0, 11, UNKNOWN, 1, 1);
        Run.bounds(full, "told(#, 1)", 0, 11, UNKNOWN, 10, 43);
        Run.refusedChangesNothing("a full object still has room for steps", OUTSIDE, full, "step(4, 1)");
        new Run("a full object still has room for steps", full).due("step(3, 1)", 3);
    }

    private static void fullOfSteps() {
        String[] full = tenSteps();
        Run.refusedChangesNothing("full", FULL, full, "step(0, 1)", "step(3, 500)");
        Run.refusedChangesNothing("outside before full", OUTSIDE, full, Run.beyond("step(#, 1)", 0, 3));
        Run.refusedChangesNothing("outside before full", OUTSIDE, full, Run.beyond("step(0, #)", 1, 500));
        new Run("a full trial still leaves room for units", full).due("unit(3, 1, 2)", 1);
    }

    private static void unknownBeforeOutside() {
        String[] noUnit = {"5", "11", "12", "-1", "-2147483648", "2147483647"};
        for (String u : noUnit) {
            Run.refusedChangesNothing("unknown", UNKNOWN, ALL_FAILED_AT_1, "set(" + u + ", 0, 1, 0)", "told(" + u + ", 0)");
            Run.refusedChangesNothing("unknown before outside", UNKNOWN, ALL_FAILED_AT_1, Run.beyond("set(" + u + ", #, 1, 0)", 0, 3));
            Run.refusedChangesNothing("unknown before outside", UNKNOWN, ALL_FAILED_AT_1, Run.beyond("set(" + u + ", 0, #, 0)", 1, 500));
            Run.refusedChangesNothing("unknown before outside", UNKNOWN, ALL_FAILED_AT_1, Run.beyond("set(" + u + ", 0, 1, #)", -1, 2));
            Run.refusedChangesNothing("unknown before outside", UNKNOWN, ALL_FAILED_AT_1, Run.beyond("told(" + u + ", #)", 0, 3));
        }
    }

    private static void unknownWithoutUnits() {
        Run.refusedChangesNothing("unknown without units", UNKNOWN, NO_UNITS,
                "set(0, 0, 1, 0)", "set(-1, 0, 1, 0)", "told(0, 0)", "told(-1, 3)", "told(0, 4)", "set(0, 4, 0, 3)");
        String[] dropped = Run.joined(NO_UNITS, "unit(1, 20, 1)", "unit(2, 30, 0)", "drop()");
        Run.refusedChangesNothing("unknown behind a drop", UNKNOWN, dropped, "set(1, 0, 1, 0)", "told(1, 0)", "told(1, 3)");
    }

    private static void noUnitToDrop() {
        Run.refusedChangesNothing("no unit", NOT, NO_UNITS, "drop()");
        Run.refusedChangesNothing("no unit any more", NOT, Run.joined(NO_UNITS, "unit(1, 20, 1)", "drop()"), "drop()");
        Run run = new Run("drop again and again", "unit(1, 20, 1)");
        run.due("drop()", 0);
        run.dueEach(NOT, "drop()", "drop()", "drop()");
        run.due("unit(2, 30, 0)", 0);
        run.due("told(0, 1)", 30);
    }

    private static void nothingLeft() {
        String[] way = ALL_FAILED_AT_1;
        Run.refusedChangesNothing("nothing left", NOT, way, "rest(2, -1, 20, 21, 0)", "rest(2, -1, 20, 500, 1)", "rest(2, -1, 499, 500, 0)",
                "rest(2, 1, 20, 21, 1)");
        new Run("the hour before", way).due("rest(2, -1, 19, 500, 0)", 1);
        new Run("by a cause that not all failed by", way).due("rest(2, 0, 499, 500, 0)", 1);
        new Run("with units that stand", way).due("rest(3, -1, 499, 500, 0)", 1);
        Run.refusedChangesNothing("outside before not", OUTSIDE, way, Run.beyond("rest(#, -1, 20, 21, 0)", 0, 15));
        Run.refusedChangesNothing("outside before not", OUTSIDE, way, Run.beyond("rest(2, #, 20, 21, 0)", -1, 2));
        Run.refusedChangesNothing("outside before not", OUTSIDE, way, Run.beyond("rest(2, -1, #, 21, 0)", 0, 20));
        Run.refusedChangesNothing("outside before not", OUTSIDE, way, Run.beyond("rest(2, -1, 20, #, 0)", 21, 500));
        Run.refusedChangesNothing("outside before not", OUTSIDE, way, Run.beyond("rest(2, -1, 20, 21, #)", 0, 1));
    }

    private static void noHalf() {
        for (String[] way : new String[][] {NO_UNITS, NO_HALF}) {
            Run.refusedChangesNothing("no half", NOT, way, "law(1, 0, 0)", "law(1, 0, 2)", "law(100000, 0, 1)", "law(91000, 1000, 2)", "law(10, 5, 0)");
            Run.refusedChangesNothing("outside before not", OUTSIDE, way, Run.beyond("law(#, 0, 0)", 1, 100000));
            Run.refusedChangesNothing("outside before not", OUTSIDE, way, Run.beyond("law(#, 1000, 0)", 1, 91000));
            Run.refusedChangesNothing("outside before not", OUTSIDE, way, Run.beyond("law(1, #, 0)", 0, 1000));
            Run.refusedChangesNothing("outside before not", OUTSIDE, way, Run.beyond("law(99991, #, 0)", 0, 1));
            Run.refusedChangesNothing("outside before not", OUTSIDE, way, Run.beyond("law(1, 0, #)", 0, 2));
            new Run("a miss of none is no refusal", way).due("miss(100, 1)", 0);
        }
        // One failure more brings LEFT at STRESS 3 to 4 / 8.
        Run run = new Run("a half", NO_HALF);
        run.due("time(15, -1, 1, 2)", 30);
        run.due("law(10, 1, 2)", NOT);
        run.due("unit(3, 11, 0)", 10);
        run.due("law(10, 1, 2)", 0);
        run.due("drop()", 10);
        run.due("law(10, 1, 2)", NOT);
    }

    private static void severalNumbersOutside() {
        Run.refusedChangesNothing("several outside", OUTSIDE, ALL_FAILED_AT_1, "unit(4, 0, 3)", "set(0, 4, 0, 3)", "count(16, 8)", "risk(16, 501)",
                "left(16, 3, 501, 2)", "time(16, 3, 5, 0)", "mean(16, 3, 0, 2)", "rest(16, 3, 5, 0, 2)", "runIn(16, 3, 0, 101)", "speed(4, 0)",
                "says(0, 0, 4)", "miss(0, 21)", "law(0, 1001, 3)", "step(4, 0)", "end(0, 1, 49, 2)", "rule(2, 501)", "plan(-1, 0, 3)");
    }

    private static void emptyAndFullStates() {
        String[] outside = {"unit(4, 1, 0)", "count(16, 0)", "count(0, 8)", "risk(16, 0)", "risk(0, 501)", "left(16, -1, 0, 0)", "left(0, 3, 0, 0)",
            "left(0, -1, 501, 0)", "left(0, -1, 0, 2)", "time(16, -1, 1, 2)", "time(0, 3, 1, 2)", "time(0, -1, 2, 1)", "time(0, -1, 0, 1001)",
            "mean(16, -1, 1, 0)", "mean(0, 3, 1, 0)", "mean(0, -1, 501, 0)", "mean(0, -1, 1, 2)", "rest(16, -1, 0, 1, 0)", "rest(0, 3, 0, 1, 0)",
            "rest(0, -1, 1, 1, 0)", "rest(0, -1, 0, 501, 0)", "rest(0, -1, 0, 1, 2)", "runIn(16, -1, 1, 0)", "runIn(0, 3, 1, 0)",
            "runIn(0, -1, 501, 0)", "runIn(0, -1, 1, 101)", "speed(4, 1)", "speed(0, 1001)", "says(100001, 1, 0)", "says(1, 21, 0)", "says(1, 1, 4)",
            "miss(100001, 1)", "miss(1, 21)", "law(100001, 0, 0)", "law(1, 1001, 0)", "law(1, 0, 3)", "step(4, 1)", "step(0, 501)", "used(100001)",
            "fails(100001)", "end(13, 0, 50, 0)", "end(1, 2, 50, 0)", "end(1, 0, 100, 0)", "end(1, 0, 50, 2)", "rule(2, 1)", "rule(0, 501)",
            "rule(1, 21)", "plan(10001, 1, 0)", "plan(0, 501, 0)", "plan(0, 1, 3)"};
        Run.refusedChangesNothing("on a new object", OUTSIDE, new String[0], outside);
        Run.refusedChangesNothing("on a full object", OUTSIDE, Run.joined(twelveUnits(), "step(0, 1)", "step(1, 2)", "step(2, 3)", "step(3, 4)",
                "step(0, 5)", "step(1, 6)", "step(2, 7)", "step(3, 8)"), outside);
    }

    private static void clearIsNeverRefused() {
        Run run = new Run("clear");
        run.dueEach(0, "clear()", "clear()");
        run.due("step(0, 1)", 1);
        run.due("clear()", 1);
        run.due("clear()", 0);
        Run full = new Run("clear of a full trial", tenSteps());
        full.due("clear()", 10);
        full.due("clear()", 0);
        full.due("count(15, 0)", 1);
    }
}
