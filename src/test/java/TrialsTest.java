/** Promises 17 to 20: step, clear, used, fails. */
public final class TrialsTest {
    private static final int NONE = -1, OUTSIDE = -1002, FULL = -1004;
    private static final String[] TWO = {"unit(0, 10, 0)", "step(0, 50)", "step(2, 10)"};

    public static void main(String[] args) {
        step();
        clear();
        used();
        fails();
        Run.finish();
    }

    private static void step() {
        Run run = new Run("step");
        run.dueEach(OUTSIDE, "step(-1, 1)", "step(4, 1)", "step(0, 0)", "step(0, 501)", "step(2147483647, 1)", "step(0, -2147483648)");
        for (int i = 1; i <= 10; i++) {
            run.due("step(" + i % 4 + ", " + i * 50 + ")", i);
        }
        run.due("step(0, 1)", FULL);
        run.dueEach(OUTSIDE, "step(4, 1)", "step(0, 0)", "step(0, 501)");
        run.due("clear()", 10);
        run.due("step(3, 1)", 1);
        run.due("used(1)", 800);

        Run.refusedChangesNothing("step", OUTSIDE, TWO, "step(4, 1)", "step(1, 0)", "step(1, 501)");
        String[] ten = new String[10];
        for (int i = 0; i < 10; i++) {
            ten[i] = "step(" + i % 4 + ", " + (i + 1) + ")";
        }
        Run.refusedChangesNothing("step full", FULL, ten, "step(3, 500)");
    }

    private static void clear() {
        Run run = new Run("clear", TWO);
        run.due("clear()", 2);
        run.due("used(1)", 0);
        run.due("fails(1)", NONE);
        run.due("clear()", 0);
        run.due("count(15, 0)", 1);
        run.due("step(1, 3)", 1);
        run.due("clear()", 1);
    }

    private static void used() {
        Run run = new Run("used", TWO);
        run.due("used(100)", 90);
        run.due("used(90)", 100);
        run.due("used(89)", 101);
        run.due("used(1)", 9000);
        run.due("used(9000)", 1);
        run.due("used(9001)", 0);
        run.due("used(100000)", 0);
        // The SPEED of now counts, and nothing is cut before the end: 50 * 13 * 10 + 10 * 7 * 10 = 7200.
        run.due("speed(0, 13)", 10);
        run.due("speed(2, 7)", 40);
        run.due("used(7)", 1028);
        run.dueEach(OUTSIDE, "used(0)", "used(-1)", "used(100001)", "used(-2147483648)", "used(2147483647)");
        Run.refusedChangesNothing("used", OUTSIDE, TWO, "used(0)", "used(100001)");

        Run most = new Run("most used", "speed(3, 1000)");
        for (int i = 0; i < 10; i++) {
            most.answer("step(3, 500)");
        }
        most.due("used(1)", 50000000);
    }

    private static void fails() {
        Run run = new Run("fails", TWO);
        run.due("fails(1)", 1);
        run.due("fails(50)", 50);
        run.dueEach(51, "fails(51)", "fails(54)");
        run.dueEach(52, "fails(55)", "fails(58)");
        run.due("fails(90)", 60);
        run.due("fails(91)", NONE);
        run.due("fails(100000)", NONE);
        // 50 HOURS at 1.3 are 65; behind them 0.7 an HOUR.
        run.due("speed(0, 13)", 10);
        run.due("speed(2, 7)", 40);
        run.due("fails(1)", 1);
        run.due("fails(2)", 2);
        run.due("fails(65)", 50);
        run.due("fails(66)", 52);
        run.due("fails(72)", 60);
        run.due("fails(73)", NONE);
        run.dueEach(OUTSIDE, "fails(0)", "fails(-1)", "fails(100001)", "fails(-2147483648)", "fails(2147483647)");
        Run.refusedChangesNothing("fails", OUTSIDE, TWO, "fails(0)", "fails(100001)");

        Run slow = new Run("slow steps", "speed(0, 1)", "step(0, 9)", "step(0, 1)", "step(3, 1)");
        slow.due("fails(1)", 10);
        slow.due("fails(2)", 11);
        slow.due("fails(9)", 11);
        slow.due("fails(10)", NONE);
        Run most = new Run("a life at its greatest", "speed(3, 1000)", "step(3, 500)", "step(3, 499)", "step(0, 1)", "step(0, 99)");
        most.due("fails(100000)", 1099);
        most.due("fails(99900)", 999);
        most.due("fails(99901)", 1000);
    }
}
