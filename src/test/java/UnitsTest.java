/** Promises 1 to 6: a new object, unit, set, drop, told, count. */
public final class UnitsTest {
    private static final int UNKNOWN = -1001, OUTSIDE = -1002, NOT = -1003, FULL = -1004;
    private static final String[] THREE = {"unit(0, 10, 0)", "unit(1, 20, -1)", "unit(2, 30, 2)", "step(1, 7)"};

    public static void main(String[] args) {
        newObject();
        unit();
        set();
        drop();
        told();
        count();
        Run.finish();
    }

    private static void newObject() {
        Run run = new Run("new object");
        run.dueEach(0, "count(15, 0)", "count(15, 1)", "count(15, 2)", "count(15, 6)", "count(15, 7)", "risk(15, 0)");
        run.due("told(0, 0)", UNKNOWN);
        run.due("drop()", NOT);
        run.due("clear()", 0);
        run.due("used(1)", 0);
        run.due("fails(1)", -1);
        run.due("speed(0, 1)", 10);
        run.due("speed(1, 1)", 20);
        run.due("speed(2, 1)", 40);
        run.due("speed(3, 1)", 80);
        run.due("rule(0, 1)", 10);
        run.due("rule(1, 0)", 1);

        Run other = new Run("another object knows nothing of the first");
        other.due("speed(0, 10)", 10);
        other.due("rule(0, 10)", 10);
        other.due("rule(1, 1)", 1);
    }

    private static void unit() {
        Run run = new Run("unit");
        run.dueEach(OUTSIDE, "unit(-1, 1, 0)", "unit(4, 1, 0)", "unit(0, 0, 0)", "unit(0, 501, 0)", "unit(0, 1, -2)", "unit(0, 1, 3)",
                "unit(-2147483648, 1, 0)", "unit(0, 2147483647, 0)", "unit(0, 1, -2147483648)");
        run.due("unit(0, 1, -1)", 0);
        run.due("unit(3, 500, 2)", 1);
        for (int u = 2; u < 12; u++) {
            run.due("unit(" + u % 4 + ", " + u + ", " + u % 3 + ")", u);
        }
        run.due("unit(0, 1, 0)", FULL);
        run.dueEach(OUTSIDE, "unit(4, 1, 0)", "unit(0, 0, 0)", "unit(0, 1, 3)");
        run.due("count(15, 0)", 12);
        run.due("told(11, 1)", 11);
        run.due("told(0, 2)", -1);
        run.due("drop()", 11);
        run.due("unit(1, 77, 1)", 11);
        run.due("told(11, 1)", 77);

        Run.refusedChangesNothing("unit outside", OUTSIDE, THREE, "unit(4, 1, 0)", "unit(1, 501, 0)", "unit(1, 5, 3)");
        String[] twelve = new String[12];
        for (int u = 0; u < 12; u++) {
            twelve[u] = "unit(" + u % 4 + ", " + (10 + u) + ", 0)";
        }
        Run.refusedChangesNothing("unit full", FULL, twelve, "unit(3, 499, 2)");
    }

    private static void set() {
        Run run = new Run("set", THREE);
        run.dueEach(UNKNOWN, "set(3, 0, 1, 0)", "set(-1, 0, 1, 0)", "set(12, 0, 1, 0)", "set(3, 9, 9, 9)",
                "set(-2147483648, 0, 0, 0)", "set(2147483647, 0, 1, 0)");
        run.dueEach(OUTSIDE, "set(1, -1, 1, 0)", "set(1, 4, 1, 0)", "set(1, 0, 0, 0)", "set(1, 0, 501, 0)", "set(1, 0, 1, -2)", "set(1, 0, 1, 3)");
        run.due("set(1, 3, 500, -1)", 1);
        run.due("told(1, 0)", 3);
        run.due("told(1, 1)", 500);
        run.due("told(1, 2)", -1);
        run.due("told(0, 1)", 10);
        run.due("told(2, 1)", 30);
        run.due("count(15, 0)", 3);
        run.due("set(2, 0, 1, 2)", 1);
        run.due("told(2, 2)", 2);
        Run.refusedChangesNothing("set unknown", UNKNOWN, THREE, "set(3, 0, 1, 0)", "set(-1, 0, 1, 0)");
        Run.refusedChangesNothing("set outside", OUTSIDE, THREE, "set(0, 4, 1, 1)", "set(1, 3, 0, 1)", "set(2, 3, 1, 3)");
    }

    private static void drop() {
        Run run = new Run("drop", THREE);
        run.due("drop()", 2);
        run.due("told(2, 0)", UNKNOWN);
        run.due("told(1, 1)", 20);
        run.due("drop()", 1);
        run.due("drop()", 0);
        run.due("drop()", NOT);
        run.due("drop()", NOT);
        run.due("unit(2, 5, 1)", 0);
        run.due("count(15, 0)", 1);
        Run.refusedChangesNothing("drop of none", NOT, new String[] {"step(1, 7)", "speed(1, 5)"}, "drop()");
    }

    private static void told() {
        Run run = new Run("told", THREE);
        run.due("told(2, 0)", 2);
        run.due("told(2, 1)", 30);
        run.due("told(2, 2)", 2);
        run.due("told(2, 3)", 120);
        run.due("told(1, 2)", -1);
        run.dueEach(OUTSIDE, "told(0, -1)", "told(0, 4)", "told(2, 2147483647)");
        run.dueEach(UNKNOWN, "told(3, 0)", "told(-1, 0)", "told(3, 4)", "told(-1, -1)");
        run.due("set(0, 0, 7, 0)", 1);
        run.due("speed(0, 13)", 10);
        run.due("told(0, 3)", 9);
        run.due("speed(0, 1)", 13);
        run.due("told(0, 3)", 0);
        run.due("speed(0, 1000)", 1);
        run.due("set(0, 0, 500, 0)", 1);
        run.due("told(0, 3)", 50000);
        Run.refusedChangesNothing("told", OUTSIDE, THREE, "told(0, 4)");
        Run.refusedChangesNothing("told", UNKNOWN, THREE, "told(3, 0)");
    }

    private static void count() {
        Run run = new Run("count", "unit(0, 7, 0)", "unit(0, 9, -1)", "unit(1, 20, 1)", "unit(2, 30, 2)", "unit(3, 40, 2)", "unit(3, 50, -1)");
        long[] ofAll = {6, 4, 2, 1, 1, 2, 156, 7 + 9 + 40 + 120 + 320 + 400};
        long[] ofZero = {2, 1, 1, 1, 0, 0, 16, 16};
        long[] ofOneAndThree = {3, 2, 1, 0, 1, 1, 110, 760};
        for (int what = 0; what < 8; what++) {
            run.due("count(15, " + what + ")", ofAll[what]);
            run.due("count(1, " + what + ")", ofZero[what]);
            run.due("count(10, " + what + ")", ofOneAndThree[what]);
            run.due("count(0, " + what + ")", 0);
        }
        run.due("speed(0, 13)", 10);
        // 9.1 and 11.7: each USE HOUR is cut before the sum.
        run.due("count(1, 7)", 20);
        run.dueEach(OUTSIDE, "count(-1, 0)", "count(16, 0)", "count(15, -1)", "count(15, 8)", "count(2147483647, 0)", "count(0, -2147483648)");
        Run.refusedChangesNothing("count", OUTSIDE, THREE, "count(16, 0)", "count(15, 8)");
    }
}
