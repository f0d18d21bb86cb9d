/** Promises 13 to 16: speed, says, miss, law. */
public final class LawsTest {
    private static final int OUTSIDE = -1002, NOT = -1003;
    private static final String[] HALVES = {"unit(0, 100, 0)", "unit(1, 60, 1)", "unit(3, 20, 2)"};

    public static void main(String[] args) {
        speed();
        says();
        miss();
        law();
        Run.finish();
    }

    private static void speed() {
        Run run = new Run("speed", "unit(2, 100, 0)", "step(2, 100)");
        run.due("speed(2, 1)", 40);
        run.due("told(0, 3)", 10);
        run.due("used(1)", 1000);
        run.due("speed(2, 1000)", 1);
        run.due("told(0, 3)", 10000);
        run.due("speed(2, 1000)", 1000);
        run.due("speed(0, 7)", 10);
        run.due("speed(3, 9)", 80);
        run.due("speed(1, 8)", 20);
        run.due("speed(0, 1)", 7);
        run.dueEach(OUTSIDE, "speed(-1, 1)", "speed(4, 1)", "speed(0, 0)", "speed(0, 1001)", "speed(-2147483648, 1)", "speed(3, -2147483648)");
        Run.refusedChangesNothing("speed", OUTSIDE, HALVES, "speed(4, 1)", "speed(0, 0)", "speed(1, 1001)");
    }

    private static void says() {
        Run run = new Run("says");
        run.dueEach(400, "says(400, 1, 0)", "says(400, 20, 0)");
        run.due("says(400, 10, 1)", 200);
        run.due("says(400, 10, 3)", 50);
        // 100, 90, 81, 73: cut each time (at once it would be 75).
        run.due("says(100, 1, 1)", 90);
        run.due("says(100, 1, 2)", 81);
        run.due("says(100, 1, 3)", 73);
        run.due("says(1, 1, 1)", 0);
        run.due("says(1, 20, 3)", 0);
        run.due("says(100000, 20, 3)", 3703);
        run.due("says(100000, 1, 0)", 100000);
        run.dueEach(OUTSIDE, "says(0, 1, 0)", "says(100001, 1, 0)", "says(1, 0, 0)", "says(1, 21, 0)", "says(1, 1, -1)", "says(1, 1, 4)",
                "says(1, -10, 1)", "says(2147483647, 1, 1)", "says(1, 1, 2147483647)");
        Run.refusedChangesNothing("says", OUTSIDE, HALVES, "says(0, 1, 0)", "says(1, 0, 0)", "says(1, 1, 4)");
    }

    private static void miss() {
        Run empty = new Run("miss without units");
        empty.dueEach(0, "miss(1, 1)", "miss(100000, 20)");

        Run run = new Run("miss", HALVES);
        // The law of 100 and 10 says 100, 50, 25, 12; nothing is seen at 2.
        run.due("miss(100, 10)", 10 + 8);
        run.due("miss(90, 10)", 10 + 15 + 9);
        run.due("miss(100, 5)", 6 + 9);
        // With three more at 1 that were taken off later, LEFT of 1 alone comes to 3 / 4 only.
        run.answer("unit(1, 70, -1)");
        run.due("miss(100, 10)", 10 + 8);
        run.answer("unit(1, 70, -1)");
        run.due("miss(100, 10)", 8);
        run.answer("unit(1, 65, 0)");
        // Of 4 at 1, LEFT is 3 / 4 from 60 on, and 2 / 4 from 65 on: by any CAUSE together.
        run.due("miss(100, 10)", 15 + 8);
        run.due("miss(100000, 1)", 100000 - 100 + 90909 - 65 + 75130 - 20);
        run.dueEach(OUTSIDE, "miss(0, 1)", "miss(100001, 1)", "miss(1, 0)", "miss(1, 21)", "miss(-2147483648, 1)", "miss(1, 2147483647)");
        Run.refusedChangesNothing("miss", OUTSIDE, HALVES, "miss(0, 1)", "miss(1, 21)");
    }

    private static void law() {
        Run empty = new Run("law without halves", "unit(0, 100, -1)", "unit(1, 50, 0)", "unit(1, 60, -1)", "unit(1, 60, -1)");
        empty.dueEach(NOT, "law(1, 0, 0)", "law(100, 10, 1)", "law(100000, 0, 2)");
        empty.dueEach(OUTSIDE, "law(0, 0, 0)", "law(1, 1001, 0)", "law(1, 0, 3)", "law(99992, 1, 0)");
        Run.refusedChangesNothing("law", NOT, new String[] {"step(1, 7)"}, "law(1, 0, 0)");

        Run one = new Run("law of one half", "unit(1, 50, 0)");
        // 95 and 9 says 50 (950 / 19), and so do others: the least base first, then the least step.
        one.due("law(95, 5, 2)", 0);
        one.due("law(95, 5, 0)", 95);
        one.due("law(95, 5, 1)", 9);
        one.due("law(100, 0, 0)", 100);
        one.due("law(100, 0, 1)", 10);
        one.due("law(10, 5, 0)", 55);
        one.due("law(10, 5, 1)", 1);
        // 10 to 50: the greatest base and the least step come nearest, 45 of 50.
        one.due("law(5, 5, 0)", 50);
        one.due("law(5, 5, 1)", 1);
        one.due("law(5, 5, 2)", 5);
        // Below the tenth base nothing more is looked at.
        one.due("law(1, 1, 0)", 10);
        one.due("law(1, 1, 2)", 41);
        // The greatest step is 20.
        one.due("law(1000, 1000, 0)", 1000);
        one.due("law(1000, 1000, 1)", 20);
        one.due("law(1000, 1000, 2)", 283);

        Run zero = new Run("law of a half at 0", "unit(0, 104, 0)");
        // Every step is as good: the least; 103 misses as much as 105: the least base.
        zero.due("law(101, 2, 0)", 103);
        zero.due("law(101, 2, 1)", 1);
        zero.due("law(101, 2, 2)", 1);

        Run run = new Run("law refused", HALVES);
        run.due("law(91000, 1000, 0)", 91000);
        run.due("law(100000, 0, 0)", 100000);
        run.dueEach(OUTSIDE, "law(0, 1, 0)", "law(100001, 0, 0)", "law(1, -1, 0)", "law(1, 1001, 0)", "law(91001, 1000, 0)", "law(99992, 1, 0)",
                "law(1, 1, -1)", "law(1, 1, 3)", "law(2147483647, 1000, 0)", "law(1, 2147483647, 0)", "law(-2147483648, -2147483648, 0)");
        Run.refusedChangesNothing("law", OUTSIDE, HALVES, "law(0, 1, 0)", "law(1, 1001, 0)", "law(99992, 1, 0)", "law(1, 1, 3)");
    }
}
