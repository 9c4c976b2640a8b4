/** Promises 1 (a new object), 2 (setPattern), 4 (advance), 8 (day), 9 (foretold), 11 (dayOf), 14 (labelOf), 15 (find). */
public final class PatternTest {
    public static void main(String[] args) {
        newObject();
        patternArguments();
        patternThatThrowsChangesNothing();
        patternKeepsDaysAndChangesLevels();
        patternForetellsAtOnce();
        skippedMonths();
        skippedMonthEdges();
        issueZeroInSkippedMonth();
        advance();
        advanceToTheLastDay();
        dayAndForetold();
        dayOf();
        labelOf();
        find();
        findComparesBothParts();
        lastIssue();
        Check.end();
    }

    private static void newObject() {
        IssueDesk desk = new IssueDesk();
        Check.same("1: day", desk.day(), 0);
        Check.same("1: foretold", desk.foretold(), 1);
        Check.same("1: shift", desk.shift(), 0);
        Check.same("1: dayOf(0)", desk.dayOf(0), 0);
        Check.same("1: stateOf(0)", desk.stateOf(0), IssueDesk.WAITED);
        Check.same("1: claimsOf(0)", desk.claimsOf(0), 0);
        Check.same("1: ranges", desk.ranges(), 0);
        Check.same("1: late", desk.late(), 0);
        Check.same("1: the other house", desk.only(false, 0), IssueDesk.NONE);
        Check.same("1: size 12", desk.labelOf(11), 1012);
        Check.same("1: size 12, anew", desk.labelOf(12), 2001);
        desk.advance(360);
        Check.same("1: gap 30, no month skipped", desk.foretold(), 13);
        for (int issue = 0; issue < 13; issue++) {
            Check.same("1: dayOf", desk.dayOf(issue), 30 * issue);
        }
    }

    private static void patternArguments() {
        int[][] wrong = {{0, 1, 0}, {-1, 1, 0}, {91, 1, 0}, {Integer.MAX_VALUE, 1, 0}, {Integer.MIN_VALUE, 1, 0},
            {1, 0, 0}, {1, -1, 0}, {1, 21, 0}, {1, Integer.MAX_VALUE, 0}, {1, Integer.MIN_VALUE, 0},
            {1, 1, -1}, {1, 1, 4095}, {1, 1, 4096}, {1, 1, Integer.MAX_VALUE}, {1, 1, Integer.MIN_VALUE}};
        IssueDesk desk = new IssueDesk();
        for (int[] one : wrong) {
            Check.fails("2: setPattern(" + one[0] + ", " + one[1] + ", true, " + one[2] + ")", Check.BAD_ARGUMENT,
                () -> desk.setPattern(one[0], one[1], true, one[2]));
        }
        int[][] right = {{1, 1, 0}, {90, 20, 4094}, {90, 1, 2047}, {1, 20, 1}};
        for (int[] one : right) {
            new IssueDesk().setPattern(one[0], one[1], false, one[2]);
        }
    }

    private static void patternThatThrowsChangesNothing() {
        IssueDesk desk = new IssueDesk();
        Check.fails("2: skipped", Check.BAD_ARGUMENT, () -> desk.setPattern(5, 3, false, 4095));
        Check.fails("2: size", Check.BAD_ARGUMENT, () -> desk.setPattern(5, 21, false, 2));
        Check.same("2: label after a throw", desk.labelOf(12), 2001);
        desk.advance(29);
        Check.same("2: gap after a throw", desk.foretold(), 1);
        desk.advance(1);
        Check.same("2: months after a throw", desk.dayOf(1), 30);
    }

    private static void patternKeepsDaysAndChangesLevels() {
        IssueDesk desk = new IssueDesk();
        desk.advance(60);
        desk.setPattern(7, 2, true, 6);
        Check.same("2: dayOf(1) stays, though its month is skipped", desk.dayOf(1), 30);
        Check.same("2: dayOf(2) stays", desk.dayOf(2), 60);
        Check.same("2: foretold", desk.foretold(), 3);
        Check.same("2: label of a foretold one", desk.labelOf(2), 2001);
        Check.same("2: label of a later one", desk.labelOf(5), 3002);
        desk.setPattern(7, 2, false, 6);
        Check.same("2: going on", desk.labelOf(5), 3006);
    }

    private static void patternForetellsAtOnce() {
        IssueDesk desk = new IssueDesk();
        desk.setPattern(90, 12, true, 0);
        desk.advance(89);
        Check.same("2: foretold before", desk.foretold(), 1);
        desk.setPattern(20, 12, true, 0);
        Check.same("2: foretold at once", desk.foretold(), 5);
        Check.same("2: dayOf(4)", desk.dayOf(4), 80);
    }

    private static void skippedMonths() {
        IssueDesk desk = new IssueDesk();
        desk.setPattern(20, 3, false, 6);
        desk.advance(89);
        Check.same("2: nothing in the months 1 and 2", desk.foretold(), 2);
        Check.same("2: dayOf(1)", desk.dayOf(1), 20);
        desk.advance(1);
        Check.same("2: dayOf(2)", desk.dayOf(2), 90);
        desk.advance(20);
        Check.same("2: the gap goes on from there", desk.dayOf(3), 110);
        desk.advance(280);
        Check.same("2: next year, month 1 again skipped", desk.day(), 390);
        int last = desk.foretold() - 1;
        Check.same("2: the last of the year", desk.dayOf(last), 370);
        desk.advance(60);
        Check.same("2: behind the skipped months", desk.dayOf(last + 1), 450);
    }

    private static void skippedMonthEdges() {
        IssueDesk desk = new IssueDesk();
        desk.setPattern(59, 1, true, 2);
        desk.checkIn(1, 0);
        Check.same("2: the last day of month 1", desk.dayOf(1), 60);
        IssueDesk other = new IssueDesk();
        other.setPattern(29, 1, true, 2);
        other.checkIn(1, 0);
        Check.same("2: the last day of month 0", other.dayOf(1), 29);
        IssueDesk first = new IssueDesk();
        first.setPattern(30, 1, true, 2);
        first.checkIn(1, 0);
        Check.same("2: the first day of month 1", first.dayOf(1), 60);
        IssueDesk most = new IssueDesk();
        most.setPattern(30, 1, true, 4094);
        most.checkIn(2, 0);
        Check.same("2: eleven months skipped", most.dayOf(1), 360);
        Check.same("2: eleven months skipped again", most.dayOf(2), 720);
        IssueDesk end = new IssueDesk();
        end.setPattern(90, 1, true, 2047);
        end.checkIn(3, 0);
        Check.same("2: only month 11", end.dayOf(1), 330);
        Check.same("2: 420 is in month 2, so 690", end.dayOf(2), 690);
    }

    private static void issueZeroInSkippedMonth() {
        IssueDesk desk = new IssueDesk();
        desk.setPattern(1, 1, true, 1);
        Check.same("2: the issue 0 stays", desk.dayOf(0), 0);
        desk.advance(30);
        Check.same("2: the issue 1 leaves month 0", desk.dayOf(1), 30);
        Check.same("2: foretold", desk.foretold(), 2);
    }

    private static void advance() {
        IssueDesk desk = new IssueDesk();
        for (int days : new int[] {0, -1, 401, Integer.MAX_VALUE, Integer.MIN_VALUE}) {
            Check.fails("4: advance(" + days + ")", Check.BAD_ARGUMENT, () -> desk.advance(days));
        }
        Check.same("4: day after throws", desk.day(), 0);
        Check.same("4: advance(1)", desk.advance(1), 1);
        Check.same("4: advance(400)", desk.advance(400), 401);
        Check.same("4: day", desk.day(), 401);
        Check.same("4: foretold", desk.foretold(), 14);
    }

    private static void advanceToTheLastDay() {
        IssueDesk desk = new IssueDesk();
        for (int i = 1; i < 18; i++) {
            Check.same("4: advance(400)", desk.advance(400), 400 * i);
        }
        Check.same("4: advance(399)", desk.advance(399), 7199);
        Check.fails("4: advance(2) to 7201", Check.BAD_STATE, () -> desk.advance(2));
        Check.same("4: day after a throw", desk.day(), 7199);
        Check.same("4: to 7200", desk.advance(1), 7200);
        Check.fails("4: above 7200", Check.BAD_STATE, () -> desk.advance(1));
        Check.fails("4: out of range goes first", Check.BAD_ARGUMENT, () -> desk.advance(401));
        Check.fails("4: out of range goes first", Check.BAD_ARGUMENT, () -> desk.advance(0));
        Check.same("4: all are foretold", desk.foretold(), 200);
    }

    private static void dayAndForetold() {
        IssueDesk desk = new IssueDesk();
        desk.setPattern(1, 1, true, 0);
        Check.same("9: tomorrow's is not foretold", desk.foretold(), 1);
        Check.same("8: day", desk.day(), 0);
        desk.advance(150);
        Check.same("8: day", desk.day(), 150);
        Check.same("9: today's is foretold", desk.foretold(), 151);
        desk.advance(400);
        Check.same("9: never above 200", desk.foretold(), 200);
    }

    private static void dayOf() {
        IssueDesk desk = new IssueDesk();
        desk.advance(30);
        Check.same("11: dayOf(1)", desk.dayOf(1), 30);
        for (int issue : new int[] {-1, 2, 200, Integer.MAX_VALUE, Integer.MIN_VALUE}) {
            Check.fails("11: dayOf(" + issue + ")", Check.NO_INDEX, () -> desk.dayOf(issue));
        }
        desk.checkIn(199, 0);
        Check.same("11: dayOf(199)", desk.dayOf(199), 5970);
        Check.fails("11: dayOf(200)", Check.NO_INDEX, () -> desk.dayOf(200));
    }

    private static void labelOf() {
        IssueDesk desk = new IssueDesk();
        for (int issue : new int[] {-1, 200, Integer.MAX_VALUE, Integer.MIN_VALUE}) {
            Check.fails("14: labelOf(" + issue + ")", Check.NO_INDEX, () -> desk.labelOf(issue));
        }
        Check.same("14: labelOf(0)", desk.labelOf(0), 1001);
        Check.same("14: labelOf(199)", desk.labelOf(199), 17008);
        desk.setPattern(1, 1, true, 0);
        Check.same("14: size 1, anew", desk.labelOf(199), 200001);
        desk.setPattern(1, 1, false, 0);
        Check.same("14: size 1, going on", desk.labelOf(199), 200200);
        desk.setPattern(1, 20, true, 0);
        Check.same("14: size 20, anew", desk.labelOf(199), 10020);
        desk.setPattern(1, 20, false, 0);
        Check.same("14: size 20, going on", desk.labelOf(199), 10200);
        Check.same("14: first of volume 2", desk.labelOf(20), 2021);
    }

    private static void find() {
        IssueDesk desk = new IssueDesk();
        boolean[] both = {true, false};
        for (boolean beginAnew : both) {
            desk.setPattern(90, 7, beginAnew, 0);
            for (int issue = 0; issue < 200; issue++) {
                int number = beginAnew ? issue % 7 + 1 : issue + 1;
                Check.same("15: find", desk.find(issue / 7 + 1, number), issue);
            }
        }
        Check.same("15: another volume's number", desk.find(2, 7), IssueDesk.NONE);
        Check.same("15: above all", desk.find(29, 201), IssueDesk.NONE);
        desk.setPattern(90, 7, true, 0);
        Check.same("15: number above the size", desk.find(1, 8), IssueDesk.NONE);
        Check.same("15: number 0", desk.find(2, 0), IssueDesk.NONE);
        Check.same("15: volume 0", desk.find(0, 1), IssueDesk.NONE);
        Check.same("15: the last one", desk.find(29, 4), 199);
        Check.same("15: behind the last one", desk.find(29, 5), IssueDesk.NONE);
        Check.same("15: volume 30", desk.find(30, 1), IssueDesk.NONE);
        int[] far = {Integer.MIN_VALUE, Integer.MAX_VALUE, -1};
        for (int one : far) {
            Check.same("15: far volume", desk.find(one, 1), IssueDesk.NONE);
            Check.same("15: far number", desk.find(1, one), IssueDesk.NONE);
            Check.same("15: both far", desk.find(one, one), IssueDesk.NONE);
        }
    }

    private static void findComparesBothParts() {
        IssueDesk desk = new IssueDesk();
        Check.same("15: not by the label's sum", desk.find(0, 1001), IssueDesk.NONE);
        Check.same("15: not by the label's sum", desk.find(2, -11), IssueDesk.NONE);
        Check.same("15: not by the label's sum", desk.find(3, -999), IssueDesk.NONE);
    }

    private static void lastIssue() {
        IssueDesk desk = new IssueDesk();
        desk.setPattern(90, 20, true, 4094);
        Check.same("9: checkIn(199, 0)", desk.checkIn(199, 0), 200);
        Check.same("11: dayOf(199)", desk.dayOf(199), 199 * 360);
        for (int i = 0; i < 18; i++) {
            desk.advance(400);
        }
        Check.same("9: foretold", desk.foretold(), 200);
    }
}
