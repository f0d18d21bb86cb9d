/** Promises 21 to 23: end, rule, plan. */
public final class EndsPlansTest {
    private static final int OUTSIDE = -1002;
    private static final String[] SOME = {"unit(0, 10, 0)", "step(0, 50)", "rule(0, 7)", "rule(1, 2)"};

    public static void main(String[] args) {
        end();
        rule();
        plan();
        Run.finish();
    }

    private static void end() {
        Run run = new Run("end");
        run.dueEach(0, "end(1, 0, 50, 0)", "end(12, 0, 99, 0)", "end(12, 1, 99, 0)", "end(10, 3, 95, 0)");
        run.dueEach(10, "end(1, 1, 50, 1)", "end(12, 12, 99, 1)", "end(12, 11, 99, 1)", "end(12, 11, 70, 1)");
        // One of one fails with chance j / 10: 5 of 10 are at most 50 of 100, and not at most 49.
        run.due("end(1, 1, 50, 0)", 5);
        run.due("end(1, 1, 51, 0)", 4);
        run.due("end(1, 0, 50, 1)", 5);
        run.due("end(1, 0, 51, 1)", 6);
        run.due("end(1, 1, 99, 0)", 0);
        run.due("end(1, 0, 99, 1)", 10);
        // Both of two fail with chance j * j / 100: 49 is so from a TRUST of 51 down; at least one: 19 of 100 at 1, 36 at 2.
        run.due("end(2, 2, 51, 0)", 7);
        run.due("end(2, 2, 52, 0)", 6);
        run.due("end(2, 2, 99, 0)", 1);
        run.due("end(2, 1, 81, 0)", 1);
        run.due("end(2, 1, 82, 0)", 0);
        run.due("end(2, 1, 64, 0)", 2);
        run.due("end(2, 0, 51, 1)", 3);
        run.due("end(2, 0, 52, 1)", 4);
        run.due("end(2, 1, 64, 1)", 8);
        run.due("end(2, 1, 65, 1)", 9);
        run.due("end(12, 6, 99, 0)", 1);
        run.due("end(12, 6, 99, 1)", 9);
        run.due("end(12, 12, 99, 0)", 6);
        run.dueEach(OUTSIDE, "end(0, 0, 95, 0)", "end(13, 0, 95, 0)", "end(5, -1, 95, 0)", "end(5, 6, 95, 0)", "end(5, 0, 49, 0)",
                "end(5, 0, 100, 0)", "end(5, 0, 95, -1)", "end(5, 0, 95, 2)", "end(2147483647, 1, 95, 0)", "end(-1, -2, 95, 0)");
        Run.refusedChangesNothing("end", OUTSIDE, SOME, "end(13, 0, 95, 0)", "end(5, 6, 95, 0)", "end(5, 0, 49, 0)", "end(5, 0, 95, 2)");
    }

    private static void rule() {
        Run run = new Run("rule");
        run.due("rule(0, 500)", 10);
        run.due("rule(0, 1)", 500);
        run.due("rule(1, 20)", 1);
        run.due("rule(1, 0)", 20);
        run.due("rule(0, 5)", 1);
        run.due("rule(1, 3)", 0);
        run.due("plan(10000, 10, 2)", 12 * (5 + 30) + 12 * (5 + 9));
        run.dueEach(OUTSIDE, "rule(-1, 1)", "rule(2, 1)", "rule(0, 0)", "rule(0, 501)", "rule(1, -1)", "rule(1, 21)", "rule(2147483647, 1)", "rule(0, -2147483648)");
        Run.refusedChangesNothing("rule", OUTSIDE, SOME, "rule(2, 1)", "rule(0, 0)", "rule(0, 501)", "rule(1, -1)", "rule(1, 21)");
    }

    private static void planned(Run run, String moneyAndHours, long atUse, long hard, long cost) {
        run.due("plan(" + moneyAndHours + ", 0)", atUse);
        run.due("plan(" + moneyAndHours + ", 1)", hard);
        run.due("plan(" + moneyAndHours + ", 2)", cost);
    }

    private static void plan() {
        Run run = new Run("plan");
        planned(run, "0, 1", 0, 0, 0);
        planned(run, "10, 1", 0, 0, 0);
        // At 1 HOUR of use a part runs 1 HOUR at both: 11 each.
        planned(run, "11, 1", 1, 0, 11);
        planned(run, "264, 1", 12, 12, 264);
        planned(run, "263, 1", 12, 11, 253);
        // At 10 HOURS of use: 20 at 0, 13 at 2 (2.5 HOURS rounded up).
        planned(run, "12, 10", 0, 0, 0);
        planned(run, "19, 10", 0, 1, 13);
        planned(run, "20, 10", 1, 0, 20);
        planned(run, "26, 10", 0, 2, 26);
        planned(run, "33, 10", 1, 1, 33);
        planned(run, "100, 10", 1, 6, 98);
        planned(run, "396, 10", 12, 12, 396);
        planned(run, "395, 10", 12, 11, 383);
        planned(run, "10000, 500", 12, 12, 12 * 510 + 12 * 135);
        // SPEED 0 and 3 are nothing to it, SPEED 2 is.
        run.answer("speed(0, 1000)");
        run.answer("speed(3, 1000)");
        planned(run, "100, 10", 1, 6, 98);
        run.due("speed(2, 1)", 40);
        // Now a part takes 100 HOURS at 2: 110; so 0 is filled first.
        planned(run, "240, 10", 12, 0, 240);
        planned(run, "349, 10", 12, 0, 240);
        planned(run, "350, 10", 12, 1, 350);
        run.due("speed(2, 1000)", 1);
        planned(run, "11, 500", 0, 0, 0);
        planned(run, "15, 500", 0, 1, 15);
        run.answer("rule(1, 0)");
        planned(run, "100, 500", 10, 0, 100);
        planned(run, "135, 500", 12, 1, 130);
        run.answer("rule(0, 500)");
        run.answer("rule(1, 20)");
        planned(run, "10000, 500", 0, 12, 7200);
        run.dueEach(OUTSIDE, "plan(-1, 1, 0)", "plan(10001, 1, 0)", "plan(1, 0, 0)", "plan(1, 501, 0)", "plan(1, 1, -1)", "plan(1, 1, 3)",
                "plan(2147483647, 1, 0)", "plan(1, -2147483648, 0)");
        Run.refusedChangesNothing("plan", OUTSIDE, SOME, "plan(10001, 1, 0)", "plan(1, 0, 0)", "plan(1, 1, 3)");
    }
}
