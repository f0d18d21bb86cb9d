/** The document's sentences that name a case at an edge, section by section, each in a run of its own. */
public final class EdgesTest {
    private static final int NONE = -1, UNKNOWN = -1001, OUTSIDE = -1002, NOT = -1003, FULL = -1004;

    public static void main(String[] args) {
        terms();
        twelveUnits();
        setsOfStresses();
        countsOfEachKind();
        firstAndLastHour();
        atRiskWithTheHour();
        allFailAtOnce();
        allFailOneByOne();
        looksAreApart();
        leftIsOneWithoutOne();
        leastTerms();
        time();
        mean();
        rest();
        runInWhereSomethingIsLeft();
        runInToItsLastHour();
        runInOfLikeOnes();
        speedsAndUseHours();
        saysEachCut();
        missAtHalf();
        lawOfLikeOnes();
        eachBaseAndStepOfLaw();
        stepsOfTrial();
        usedCutAtTheEnd();
        failsInTheFirstHour();
        lowEnd();
        highEnd();
        planForMoney();
        planRoundedUp();
        planAtTheBounds();
        Run.finish();
    }

    private static void fraction(Run run, String callWithoutWhat, long upper, long lower) {
        run.due(callWithoutWhat + ", 0)", upper);
        run.due(callWithoutWhat + ", 1)", lower);
    }

    /** Parts that failed and parts that were taken off, at one STRESS. */
    private static Run parts(String title, int stress, int[] failed, int[] takenOff) {
        Run run = new Run(title);
        for (int hour : failed) {
            run.answer("unit(" + stress + ", " + hour + ", 0)");
        }
        for (int hour : takenOff) {
            run.answer("unit(" + stress + ", " + hour + ", -1)");
        }
        return run;
    }

    private static void terms() {
        Run run = new Run("numbers from 0 on, as they come");
        run.due("unit(3, 9, 2)", 0);
        run.due("unit(3, 9, -1)", 1);
        run.due("told(0, 2)", 2);
        run.due("told(1, 2)", NONE);
        Run cut = new Run("cut towards 0", "speed(0, 9)", "unit(0, 1, 0)", "step(0, 1)");
        cut.due("told(0, 3)", 0);
        cut.due("count(1, 7)", 0);
        cut.due("says(1, 1, 1)", 0);
        cut.due("used(91)", 0);
        cut.due("used(90)", 1);
    }

    private static void twelveUnits() {
        Run run = new Run("12 units at most");
        for (int u = 0; u < 11; u++) {
            run.due("unit(0, " + (u + 1) + ", 0)", u);
        }
        run.due("told(11, 1)", UNKNOWN);
        run.due("unit(0, 12, 0)", 11);
        run.due("told(11, 1)", 12);
        run.due("told(12, 1)", UNKNOWN);
        run.dueEach(FULL, "unit(0, 13, 0)", "unit(3, 500, -1)");
        run.due("risk(1, 0)", 12);
        run.due("set(11, 0, 500, 0)", 1);
        run.due("drop()", 11);
        run.due("told(11, 1)", UNKNOWN);
        run.due("set(11, 0, 1, 0)", UNKNOWN);
        run.due("set(10, 0, 1, 0)", 1);
        run.due("unit(1, 99, -1)", 11);
        run.due("unit(1, 99, -1)", FULL);
        for (int left = 11; left >= 0; left--) {
            run.due("drop()", left);
        }
        run.due("drop()", NOT);
        run.due("unit(2, 5, 1)", 0);
        run.due("count(15, 6)", 5);
    }

    private static void setsOfStresses() {
        Run run = new Run("bit s for stress s", "unit(0, 1, 0)", "unit(1, 10, 0)", "unit(2, 100, 0)", "unit(3, 400, 0)");
        int[] hours = {1, 10, 100, 400};
        for (int set = 0; set <= 15; set++) {
            int sum = 0;
            for (int stress = 0; stress < 4; stress++) {
                sum += (set >> stress) % 2 * hours[stress];
            }
            run.due("count(" + set + ", 6)", sum);
            run.due("risk(" + set + ", 0)", Integer.bitCount(set));
            run.due("time(" + set + ", -1, 0, 1)", set == 0 ? NONE : hours[31 - Integer.numberOfLeadingZeros(set)]);
        }
    }

    private static void countsOfEachKind() {
        Run empty = new Run("counts without units");
        for (int what = 0; what <= 7; what++) {
            empty.dueEach(0, "count(0, " + what + ")", "count(15, " + what + ")");
        }
        // 5 taken off, 1 failed by CAUSE 0, 2 by 1, 4 by 2, and all that there is room for.
        Run full = new Run("counts of a full object");
        int[] causes = {NONE, NONE, NONE, NONE, NONE, 0, 1, 1, 2, 2, 2, 2};
        for (int u = 0; u < 12; u++) {
            full.answer("unit(3, 500, " + causes[u] + ")");
        }
        long[] due = {12, 7, 5, 1, 2, 4, 6000, 48000};
        for (int what = 0; what <= 7; what++) {
            full.dueEach(due[what], "count(8, " + what + ")", "count(15, " + what + ")");
            full.dueEach(0, "count(7, " + what + ")", "count(0, " + what + ")");
        }
    }

    private static void firstAndLastHour() {
        Run first = parts("failed at the first hour", 0, new int[] {1}, new int[] {500});
        fraction(first, "left(1, -1, 0", 1, 1);
        fraction(first, "left(1, -1, 1", 1, 2);
        first.due("time(1, -1, 1, 2)", 1);
        first.dueEach(2, "risk(1, 0)", "risk(1, 1)");
        first.dueEach(1, "risk(1, 2)", "risk(1, 500)");
        fraction(first, "mean(1, -1, 1", 1, 1);
        fraction(first, "mean(1, -1, 2", 3, 2);
        Run last = parts("failed at the last hour", 0, new int[] {500}, new int[] {500});
        fraction(last, "left(1, -1, 499", 1, 1);
        fraction(last, "left(1, -1, 500", 1, 2);
        last.due("time(1, -1, 1, 2)", 500);
        last.due("time(1, -1, 499, 1000)", NONE);
        last.due("risk(1, 500)", 2);
        // MEAN and REST to 500 end with LEFT at 499.
        fraction(last, "mean(1, -1, 500", 500, 1);
        fraction(last, "rest(1, -1, 499, 500", 1, 1);
        last.due("runIn(1, -1, 500, 0)", 0);
    }

    private static void atRiskWithTheHour() {
        Run run = new Run("at risk are all whose hour is h or more", "unit(0, 10, 0)", "unit(0, 9, -1)", "unit(0, 10, -1)", "unit(0, 11, -1)", "unit(0, 10, 1)");
        run.due("risk(1, 9)", 5);
        run.due("risk(1, 10)", 4);
        run.due("risk(1, 11)", 1);
        run.due("risk(1, 12)", 0);
        fraction(run, "left(1, -1, 10", 1, 2);
        fraction(run, "left(1, 0, 10", 3, 4);
        fraction(run, "left(1, 1, 10", 3, 4);
        fraction(run, "left(1, 2, 10", 1, 1);
    }

    private static void allFailAtOnce() {
        Run run = new Run("all 12 fail at once");
        for (int u = 0; u < 12; u++) {
            run.answer("unit(" + u % 4 + ", 500, " + (u < 2 ? 0 : u < 5 ? 1 : 2) + ")");
        }
        fraction(run, "left(15, -1, 499", 1, 1);
        fraction(run, "left(15, -1, 500", 0, 1);
        fraction(run, "left(15, 0, 500", 5, 6);
        fraction(run, "left(15, 1, 500", 3, 4);
        fraction(run, "left(15, 2, 500", 5, 12);
        run.due("time(15, -1, 0, 1000)", 500);
        run.due("time(15, 2, 5, 12)", 500);
        run.due("time(15, 2, 4, 12)", NONE);
    }

    private static void allFailOneByOne() {
        Run run = parts("all 12 fail one by one", 0, new int[] {1, 2, 3, 4, 5, 6, 7, 8, 9, 10, 11, 12}, new int[] {});
        long[] uppers = {1, 11, 5, 3, 2, 7, 1, 5, 1, 1, 1, 1, 0};
        long[] lowers = {1, 12, 6, 4, 3, 12, 2, 12, 3, 4, 6, 12, 1};
        for (int t = 0; t <= 12; t++) {
            fraction(run, "left(1, -1, " + t, uppers[t], lowers[t]);
        }
        for (int a = 0; a <= 12; a++) {
            run.due("time(1, -1, " + a + ", 12)", 12 - a);
        }
        // From B on 12 - B stand, and 12 - B, .., 1 of them each HOUR: REST is (13 - B) / 2.
        for (int b = 0; b < 12; b++) {
            fraction(run, "rest(1, -1, " + b + ", 500", b % 2 == 0 ? 13 - b : (13 - b) / 2, 2 - b % 2);
        }
        run.due("rest(1, -1, 12, 500, 0)", NOT);
        fraction(run, "mean(1, -1, 12", 13, 2);
        run.dueEach(0, "runIn(1, -1, 500, 0)", "runIn(1, -1, 500, 100)", "runIn(1, -1, 12, 0)", "runIn(1, -1, 1, 0)");
        Run late = parts("the last 12 hours", 0, new int[] {489, 490, 491, 492, 493, 494, 495, 496, 497, 498, 499, 500}, new int[] {});
        fraction(late, "left(1, -1, 499", 1, 12);
        fraction(late, "left(1, -1, 500", 0, 1);
        fraction(late, "rest(1, -1, 499, 500", 1, 1);
        fraction(late, "mean(1, -1, 500", 989, 2);
        late.due("runIn(1, -1, 500, 0)", 0);
    }

    /** What one call has looked at is nothing to the next one. */
    private static void looksAreApart() {
        Run run = new Run("looks are apart", "unit(0, 1, 0)", "unit(0, 2, 0)", "unit(0, 3, 0)", "unit(0, 4, 0)", "unit(0, 400, -1)",
                "unit(1, 2, 1)", "unit(1, 300, -1)", "unit(3, 500, -1)");
        for (int again = 0; again < 2; again++) {
            run.due("runIn(1, -1, 500, 0)", 4);
            run.due("runIn(2, -1, 6, 0)", 0);
            run.due("runIn(1, -1, 500, 0)", 4);
            run.due("runIn(8, -1, 500, 0)", 0);
            run.due("time(1, -1, 1, 5)", 4);
            run.due("time(2, -1, 1, 5)", NONE);
            run.due("miss(7, 1)", 4 + 4);
            fraction(run, "left(1, -1, 500", 1, 5);
            fraction(run, "left(8, -1, 500", 1, 1);
            fraction(run, "mean(1, 1, 500", 500, 1);
        }
        // To 10 REST is 83/9 at 0 and 7 at 3.
        Run few = new Run("few pieces behind many", "unit(0, 1, 0)", "unit(0, 2, 0)", "unit(0, 400, -1)", "unit(1, 3, 1)");
        for (int u = 4; u < 12; u++) {
            few.due("unit(1, 400, -1)", u);
        }
        few.due("runIn(1, -1, 500, 0)", 2);
        few.due("runIn(2, -1, 10, 0)", 0);
        fraction(few, "rest(2, -1, 0, 10", 83, 9);
        fraction(few, "mean(2, -1, 10", 83, 9);
        few.due("time(2, -1, 1, 3)", NONE);
        fraction(few, "left(2, -1, 500", 8, 9);
    }

    private static void leftIsOneWithoutOne() {
        Run none = new Run("without units");
        Run off = parts("all taken off", 0, new int[] {}, new int[] {1, 250, 500});
        Run other = parts("failed by another cause", 0, new int[] {1, 250, 500}, new int[] {});
        for (int t : new int[] {0, 1, 250, 499, 500}) {
            for (int set = 0; set <= 15; set += 5) {
                fraction(none, "left(" + set + ", -1, " + t, 1, 1);
                fraction(off, "left(" + set + ", -1, " + t, 1, 1);
                fraction(other, "left(" + set + ", 1, " + t, 1, 1);
                fraction(other, "left(" + set + ", 2, " + t, 1, 1);
            }
            // All failed at STRESS 0: a SET without it sees none of them.
            fraction(other, "left(14, -1, " + t, 1, 1);
        }
        for (Run run : new Run[] {none, off}) {
            run.due("time(15, -1, 1, 1)", 0);
            run.dueEach(NONE, "time(15, -1, 999, 1000)", "time(15, -1, 0, 1)");
            fraction(run, "mean(15, -1, 500", 500, 1);
            fraction(run, "rest(15, -1, 499, 500", 1, 1);
            fraction(run, "rest(15, -1, 0, 500", 500, 1);
            run.dueEach(0, "runIn(15, -1, 500, 0)", "runIn(15, -1, 500, 100)", "miss(1, 1)", "miss(100000, 20)");
            run.due("law(1, 0, 0)", NOT);
        }
    }

    private static void leastTerms() {
        Run run = parts("least terms", 0, new int[] {2, 2, 4}, new int[] {500});
        fraction(run, "left(1, -1, 1", 1, 1);
        fraction(run, "left(1, -1, 2", 1, 2);
        fraction(run, "left(1, -1, 4", 1, 4);
        fraction(run, "mean(1, -1, 4", 3, 1);
        fraction(run, "mean(1, -1, 5", 13, 4);
        fraction(run, "mean(1, -1, 6", 7, 2);
        fraction(run, "rest(1, -1, 2, 6", 3, 1);
        fraction(run, "rest(1, -1, 2, 5", 5, 2);
        Run nothing = parts("the lower number of nothing is 1", 0, new int[] {3, 5, 7}, new int[] {});
        fraction(nothing, "left(1, -1, 7", 0, 1);
        fraction(nothing, "left(1, 0, 500", 0, 1);
    }

    private static void time() {
        // LEFT is 2/3 from 5 on, 1/3 from 6 on.
        Run run = parts("time of a share", 0, new int[] {5, 6}, new int[] {7});
        run.dueEach(0, "time(1, -1, 1, 1)", "time(1, -1, 1000, 1000)", "time(1, -1, 7, 7)");
        run.dueEach(5, "time(1, -1, 999, 1000)", "time(1, -1, 667, 1000)", "time(1, -1, 2, 3)", "time(1, -1, 666, 999)");
        run.dueEach(6, "time(1, -1, 666, 1000)", "time(1, -1, 665, 999)", "time(1, -1, 334, 1000)", "time(1, -1, 1, 3)", "time(1, -1, 333, 999)");
        run.dueEach(NONE, "time(1, -1, 333, 1000)", "time(1, -1, 332, 999)", "time(1, -1, 1, 1000)", "time(1, -1, 0, 1)", "time(1, -1, 0, 1000)");
        run.due("set(2, 0, 7, 0)", 1);
        run.dueEach(7, "time(1, -1, 333, 1000)", "time(1, -1, 0, 1)", "time(1, -1, 0, 1000)");
    }

    private static void mean() {
        // LEFT at 0 .. 3: 1, 1, 1/2, 0.
        Run run = parts("mean is the sum up to the hour before", 0, new int[] {2, 3}, new int[] {});
        fraction(run, "mean(1, -1, 1", 1, 1);
        fraction(run, "mean(1, -1, 2", 2, 1);
        fraction(run, "mean(1, -1, 3", 5, 2);
        fraction(run, "mean(1, -1, 4", 5, 2);
        fraction(run, "mean(1, -1, 500", 5, 2);
    }

    private static void rest() {
        Run run = parts("rest by what is left", 0, new int[] {2, 3}, new int[] {});
        fraction(run, "rest(1, -1, 0, 1", 1, 1);
        fraction(run, "rest(1, -1, 0, 500", 5, 2);
        fraction(run, "rest(1, -1, 1, 3", 3, 2);
        fraction(run, "rest(1, -1, 2, 3", 1, 1);
        fraction(run, "rest(1, -1, 2, 500", 1, 1);
        run.dueEach(NOT, "rest(1, -1, 3, 4, 0)", "rest(1, -1, 3, 4, 1)", "rest(1, -1, 499, 500, 0)");
        run.dueEach(OUTSIDE, "rest(1, -1, 3, 3, 0)", "rest(1, -1, 500, 500, 0)", "rest(1, -1, 2, 2, 0)", "rest(1, -1, 0, 0, 0)", "rest(1, -1, -1, 0, 0)");
    }

    private static void runInWhereSomethingIsLeft() {
        // REST to 500 is 13/3 at 0 (1 + 2/3 + 8 * 1/3), 5 at 1 (1 + 8 * 1/2), 8 at 2; from 10 on nothing is LEFT.
        Run run = parts("nothing is left from 10 on", 0, new int[] {1, 2, 10}, new int[] {});
        run.dueEach(2, "runIn(1, -1, 500, 0)", "runIn(1, -1, 10, 0)", "runIn(1, -1, 11, 0)", "runIn(1, -1, 500, 100)");
        // To 6 it is 3 at 0 and at 1, and 4 at 2.
        run.dueEach(2, "runIn(1, -1, 6, 0)", "runIn(1, -1, 6, 49)");
        run.dueEach(0, "runIn(1, -1, 6, 50)", "runIn(1, -1, 6, 100)");
        Run once = parts("nothing is left from the first hour on", 0, new int[] {1, 1}, new int[] {});
        once.dueEach(0, "runIn(1, -1, 1, 0)", "runIn(1, -1, 2, 0)", "runIn(1, -1, 500, 0)", "runIn(1, -1, 500, 100)");
    }

    private static void runInToItsLastHour() {
        int[] eleven = {1, 1, 1, 1, 1, 1, 1, 1, 1, 1, 1};
        Run run = parts("11 of 12 fail in the first hour", 0, eleven, new int[] {500});
        run.dueEach(0, "runIn(1, -1, 1, 0)", "runIn(1, -1, 2, 0)");
        // To 3: 7/6 at 0, 2 at 1, 1 at 2: 2 less 83 hundredths is above 7/6, less 84 below.
        run.dueEach(1, "runIn(1, -1, 3, 0)", "runIn(1, -1, 3, 83)");
        run.dueEach(0, "runIn(1, -1, 3, 84)", "runIn(1, -1, 3, 100)");
        run.dueEach(1, "runIn(1, -1, 500, 0)", "runIn(1, -1, 500, 100)");
        Run late = parts("11 of 12 fail at 499", 0, new int[] {499, 499, 499, 499, 499, 499, 499, 499, 499, 499, 499}, new int[] {500});
        late.dueEach(0, "runIn(1, -1, 500, 0)", "runIn(1, -1, 499, 0)");
    }

    private static void runInOfLikeOnes() {
        // REST to 6 is 4 at 0 (2 + 4 * 1/2), 3 at 1, and 4 at 2.
        Run run = parts("of like ones the least", 0, new int[] {2}, new int[] {500});
        run.due("runIn(1, -1, 6, 0)", 0);
        run.due("runIn(1, -1, 7, 0)", 2);
        run.due("runIn(1, -1, 7, 24)", 2);
        run.due("runIn(1, -1, 7, 25)", 0);
        run.due("runIn(1, -1, 7, 26)", 0);
        // To 9: 23/4 at 0 (1 + 3 * 3/4 + 5 * 1/2), 19/3 at 1 (3 + 5 * 2/3), 5 at 4.
        Run thirds = parts("held as fractions", 0, new int[] {1, 4}, new int[] {500, 500});
        thirds.due("runIn(1, -1, 9, 58)", 1);
        thirds.due("runIn(1, -1, 9, 59)", 0);
        // REST to 500 is 499/2 + 1 at 0, 499 at 1.
        Run half = parts("one of two in the first hour", 0, new int[] {1}, new int[] {500});
        half.dueEach(1, "runIn(1, -1, 500, 0)", "runIn(1, -1, 500, 100)", "runIn(1, -1, 4, 0)");
        half.dueEach(0, "runIn(1, -1, 3, 0)", "runIn(1, -1, 4, 100)");
    }

    private static void speedsAndUseHours() {
        Run run = new Run("speeds at their bounds");
        for (int u = 0; u < 12; u++) {
            run.answer("unit(" + u % 4 + ", 500, 0)");
        }
        for (int stress = 0; stress < 4; stress++) {
            run.due("speed(" + stress + ", 1000)", 10 << stress);
        }
        run.due("count(15, 7)", 600000);
        for (int stress = 0; stress < 4; stress++) {
            run.due("speed(" + stress + ", 1)", 1000);
        }
        run.due("told(11, 3)", 50);
        run.due("count(15, 7)", 600);
        run.due("set(11, 3, 9, 0)", 1);
        run.due("told(11, 3)", 0);
        run.due("set(11, 3, 10, 0)", 1);
        run.due("told(11, 3)", 1);
        run.due("count(8, 7)", 101);
    }

    private static void saysEachCut() {
        Run run = new Run("each cut");
        run.due("says(1, 20, 0)", 1);
        run.due("says(2, 1, 1)", 1);
        run.due("says(2, 1, 2)", 0);
        // 29 * 10 / 11 is 26 (26.4), 23 (23.6), 20 (20.9), while without cuts between it were 21.
        run.due("says(29, 1, 1)", 26);
        run.due("says(29, 1, 2)", 23);
        run.due("says(29, 1, 3)", 20);
        run.due("says(100000, 1, 3)", 75130);
        run.due("says(100000, 20, 1)", 33333);
        run.due("says(100000, 20, 2)", 11111);
        run.due("says(100000, 20, 3)", 3703);
    }

    private static void missAtHalf() {
        // Just at 1 / 2 counts; a share just above it (6 / 11) does not.
        Run at = parts("left comes to just a half", 1, new int[] {7, 7, 7, 7, 7, 8}, new int[] {9, 9, 9, 9, 9, 9});
        at.due("miss(8, 20)", 6);
        at.due("miss(24, 20)", 0);
        at.due("law(24, 0, 2)", 0);
        Run above = parts("left comes to just above a half", 1, new int[] {7, 7, 7, 7, 8}, new int[] {9, 9, 9, 9, 9, 9});
        above.due("miss(8, 20)", 0);
        above.due("law(24, 0, 2)", NOT);
        Run last = parts("a half at the last hour", 3, new int[] {500}, new int[] {500});
        last.due("miss(1, 1)", 500);
        Run most = new Run("the greatest miss", "unit(0, 1, 0)", "unit(1, 1, 1)", "unit(2, 1, 2)", "unit(3, 1, 0)");
        most.due("miss(100000, 1)", 99999 + 90908 + 82643 + 75129);
        most.due("law(100000, 0, 2)", 99999 + 33332 + 11110 + 3702);
        Run both = new Run("by any cause, of one stress alone", "unit(0, 5, 0)", "unit(0, 6, 1)", "unit(0, 9, -1)", "unit(0, 9, -1)", "unit(1, 9, -1)");
        both.due("miss(6, 1)", 0);
        both.due("miss(10, 1)", 4);
    }

    private static void lawOfLikeOnes() {
        Run run = parts("of several the least base, then the least step", 0, new int[] {100}, new int[] {});
        // All steps are alike at STRESS 0; bases 99 and 101 miss alike.
        dueLaw(run, "99, 2", 99, 1, 1);
        dueLaw(run, "97, 2", 99, 1, 1);
        dueLaw(run, "91, 1", 100, 1, 0);
        dueLaw(run, "90, 1", 99, 1, 1);
        dueLaw(run, "100, 0", 100, 1, 0);
        dueLaw(run, "100, 1000", 100, 1, 0);
        dueLaw(run, "101, 1000", 101, 1, 1);
        dueLaw(run, "1, 1000", 1, 1, 99);
        dueLaw(run, "91000, 1000", 91000, 1, 90900);
        Run steps = parts("the least step that says so", 1, new int[] {1}, new int[] {});
        // 30 / 15 is 2, and 30 / 16 the first that is cut to 1.
        dueLaw(steps, "3, 0", 3, 6, 0);
        dueLaw(steps, "3, 1", 3, 6, 0);
        dueLaw(steps, "1, 1", 2, 1, 0);
        Run greatest = parts("the greatest step", 1, new int[] {1}, new int[] {});
        dueLaw(greatest, "300, 0", 300, 20, 99);
        dueLaw(greatest, "300, 1", 300, 20, 99);
    }

    private static void eachBaseAndStepOfLaw() {
        for (int step = 1; step <= 20; step++) {
            Run run = parts("step " + step, 1, new int[] {5000 / (10 + step)}, new int[] {});
            dueLaw(run, "500, 0", 500, step, 0);
        }
        for (int i = 0; i < 10; i++) {
            Run run = parts("base " + i, 0, new int[] {50 + 50 * i}, new int[] {});
            dueLaw(run, "50, 50", 50 + 50 * i, 1, 0);
        }
        // The eleventh base would be 500.
        Run run = parts("an eleventh base", 0, new int[] {500}, new int[] {});
        dueLaw(run, "40, 46", 454, 1, 46);
    }

    private static void dueLaw(Run run, String bases, long base, long step, long miss) {
        run.due("law(" + bases + ", 0)", base);
        run.due("law(" + bases + ", 1)", step);
        run.due("law(" + bases + ", 2)", miss);
    }

    private static void stepsOfTrial() {
        Run run = new Run("up to 10 steps");
        run.due("clear()", 0);
        for (int i = 1; i <= 9; i++) {
            run.due("step(0, 1)", i);
        }
        run.due("used(1)", 900);
        run.due("step(0, 1)", 10);
        run.dueEach(FULL, "step(0, 1)", "step(3, 500)");
        run.due("used(1)", 1000);
        run.due("fails(10)", 10);
        run.due("fails(11)", NONE);
        run.due("clear()", 10);
        run.due("used(1)", 0);
        run.due("fails(1)", NONE);
        run.due("step(3, 500)", 1);
        run.due("used(1)", 400000);
    }

    private static void usedCutAtTheEnd() {
        // 10 and 10 by 11: cut each they were 0 in all.
        Run run = new Run("cut at the end", "speed(0, 1)", "step(0, 1)", "step(0, 1)");
        run.due("used(20)", 1);
        run.due("used(21)", 0);
        run.due("used(11)", 1);
        run.due("used(10)", 2);
        run.due("used(7)", 2);
        run.due("used(6)", 3);
        run.due("used(1)", 20);
        Run most = new Run("most of all", "speed(0, 1000)");
        for (int i = 1; i <= 10; i++) {
            most.due("step(0, 500)", i);
        }
        most.due("used(1)", 50000000);
        most.due("used(100000)", 500);
        most.due("used(99999)", 500);
        most.due("fails(100000)", 1000);
        most.due("fails(1)", 1);
    }

    private static void failsInTheFirstHour() {
        Run slow = new Run("slowest", "speed(0, 1)");
        for (int i = 0; i < 10; i++) {
            slow.answer("step(0, 500)");
        }
        slow.due("fails(1)", 10);
        slow.due("fails(499)", 4990);
        slow.due("fails(500)", 5000);
        slow.dueEach(NONE, "fails(501)", "fails(100000)");
        Run fast = new Run("fastest", "speed(0, 1000)", "step(0, 1)");
        fast.dueEach(1, "fails(1)", "fails(100)");
        fast.due("fails(101)", NONE);
        Run tenth = new Run("a tenth too few", "speed(0, 33)", "speed(1, 1)", "step(0, 3)", "step(1, 1)");
        tenth.dueEach(3, "fails(7)", "fails(9)");
        tenth.due("fails(10)", 4);
        tenth.due("fails(11)", NONE);
        tenth.due("speed(0, 32)", 33);
        tenth.due("fails(10)", NONE);
        Run none = new Run("an empty trial");
        none.dueEach(NONE, "fails(1)", "fails(100000)");
        none.dueEach(0, "used(1)", "used(100000)");
    }

    private static void lowEnd() {
        Run run = new Run("low end");
        for (int n = 1; n <= 12; n++) {
            run.dueEach(0, "end(" + n + ", 0, 50, 0)", "end(" + n + ", 0, 99, 0)");
            // At 1 / 10 one or more of n fail with a chance of 1 / 10 at least, which is above 1 / 100.
            run.due("end(" + n + ", 1, 99, 0)", 0);
        }
        run.due("end(1, 1, 90, 0)", 1);
        run.due("end(1, 1, 91, 0)", 0);
        run.due("end(2, 2, 64, 0)", 6);
        run.due("end(2, 2, 65, 0)", 5);
        run.due("end(2, 2, 99, 0)", 1);
        // 9 to the 12th are 28 243 of 100 000, 8 to the 12th 6 871: 9 at a TRUST of 71, 8 at 72 and at 93.
        run.due("end(12, 12, 71, 0)", 9);
        run.due("end(12, 12, 72, 0)", 8);
        run.due("end(12, 12, 93, 0)", 8);
        run.due("end(12, 12, 94, 0)", 7);
        run.due("end(12, 12, 50, 0)", 9);
    }

    private static void highEnd() {
        Run run = new Run("high end");
        for (int n = 1; n <= 12; n++) {
            // With k = n it is sure that k or fewer fail, whatever the chance.
            run.dueEach(10, "end(" + n + ", " + n + ", 50, 1)", "end(" + n + ", " + n + ", 99, 1)");
        }
        run.due("end(1, 0, 90, 1)", 9);
        run.due("end(1, 0, 91, 1)", 10);
        run.due("end(2, 0, 64, 1)", 4);
        run.due("end(2, 0, 65, 1)", 5);
        run.due("end(12, 0, 71, 1)", 1);
        run.due("end(12, 0, 72, 1)", 2);
        run.due("end(12, 0, 93, 1)", 2);
        run.due("end(12, 0, 94, 1)", 3);
        run.due("end(12, 0, 50, 1)", 1);
        run.due("end(12, 0, 99, 1)", 4);
        run.due("end(12, 11, 71, 1)", 10);
    }

    private static void planned(Run run, String moneyAndHours, long atUse, long hard, long cost) {
        run.due("plan(" + moneyAndHours + ", 0)", atUse);
        run.due("plan(" + moneyAndHours + ", 1)", hard);
        run.due("plan(" + moneyAndHours + ", 2)", cost);
    }

    private static void planForMoney() {
        // A part costs 50 at 0 and 20 at 2 for 40 HOURS of use.
        Run run = new Run("plan for money");
        planned(run, "0, 40", 0, 0, 0);
        planned(run, "19, 40", 0, 0, 0);
        planned(run, "20, 40", 0, 1, 20);
        planned(run, "39, 40", 0, 1, 20);
        planned(run, "40, 40", 0, 2, 40);
        // 50 buys one at 0 or two at 2: the most parts in all.
        planned(run, "50, 40", 0, 2, 40);
        planned(run, "59, 40", 0, 2, 40);
        planned(run, "70, 40", 0, 3, 60);
        planned(run, "240, 40", 0, 12, 240);
        // 12 parts: 12 at 2 cost 240, and each that goes to 0 30 more; a thirteenth at 0 costs 50.
        planned(run, "269, 40", 0, 12, 240);
        planned(run, "270, 40", 1, 11, 270);
        planned(run, "289, 40", 1, 11, 270);
        planned(run, "290, 40", 1, 12, 290);
        // 23 parts: 12 at 0 cost 820 with the others, 11 cost 790.
        planned(run, "819, 40", 11, 12, 790);
        planned(run, "820, 40", 12, 11, 820);
        planned(run, "839, 40", 12, 11, 820);
        planned(run, "840, 40", 12, 12, 840);
        planned(run, "10000, 40", 12, 12, 840);
    }

    private static void planRoundedUp() {
        Run run = new Run("plan rounded up", "rule(0, 1)", "rule(1, 1)", "speed(2, 100)");
        // 10 HOURS of use are 1 HOUR at 2, 11 are 1.1: 2.
        planned(run, "2, 10", 0, 1, 2);
        planned(run, "2, 11", 0, 0, 0);
        planned(run, "3, 11", 0, 1, 3);
        planned(run, "3, 20", 0, 1, 3);
        planned(run, "3, 21", 0, 0, 0);
        run.due("speed(2, 99)", 100);
        planned(run, "2, 10", 0, 0, 0);
        planned(run, "2, 9", 0, 1, 2);
        run.due("speed(2, 1000)", 99);
        planned(run, "2, 100", 0, 1, 2);
        planned(run, "2, 101", 0, 0, 0);
        run.due("speed(2, 1)", 1000);
        // Here 1 HOUR of use takes 10 at 2.
        planned(run, "24, 1", 12, 0, 24);
        planned(run, "34, 1", 12, 0, 24);
        planned(run, "35, 1", 12, 1, 35);
    }

    private static void planAtTheBounds() {
        Run dear = new Run("dearest", "rule(0, 500)", "rule(1, 20)", "speed(2, 1)");
        // 10 500 at 0 and 100 500 at 2 are more than all MONEY.
        planned(dear, "10000, 500", 0, 0, 0);
        planned(dear, "10000, 475", 1, 0, 10000);
        planned(dear, "9999, 475", 0, 0, 0);
        Run cheap = new Run("cheapest", "rule(0, 1)", "rule(1, 0)");
        planned(cheap, "0, 500", 0, 0, 0);
        planned(cheap, "1, 500", 1, 0, 1);
        planned(cheap, "12, 500", 12, 0, 12);
        planned(cheap, "13, 500", 12, 1, 13);
        planned(cheap, "23, 500", 12, 11, 23);
        planned(cheap, "24, 500", 12, 12, 24);
        planned(cheap, "25, 500", 12, 12, 24);
        planned(cheap, "10000, 1", 12, 12, 24);
    }
}
