/** Promises 17 (ranges), 18 (rangeAt), 19 (isHeld), 20 (give), 21 (only). */
public final class HoldingsTest {
    public static void main(String[] args) {
        noRanges();
        fewRanges();
        rangesGrowTogether();
        mostRanges();
        oneRangeOfAll();
        isHeld();
        giveArguments();
        give();
        only();
        onlyArguments();
        giveIsNotHeld();
        Check.end();
    }

    private static void noRanges() {
        IssueDesk desk = new IssueDesk();
        Check.same("17: ranges", desk.ranges(), 0);
        for (int k : new int[] {-1, 0, 1, Integer.MAX_VALUE, Integer.MIN_VALUE}) {
            Check.fails("18: rangeAt(" + k + ")", Check.NO_INDEX, () -> desk.rangeAt(k));
        }
        desk.skip(0);
        Check.same("17: a skipped one is not held", desk.ranges(), 0);
        Check.same("19: isHeld(0)", desk.isHeld(0), false);
    }

    /** Holds 0 to 2, 5, and 9 to 14. */
    private static IssueDesk some() {
        IssueDesk desk = new IssueDesk();
        desk.checkIn(9, 5);
        desk.checkIn(5, 0);
        desk.checkIn(0, 2);
        desk.skip(3);
        return desk;
    }

    private static void fewRanges() {
        IssueDesk desk = some();
        Check.same("17: ranges", desk.ranges(), 3);
        Check.same("18: rangeAt(0)", desk.rangeAt(0), 2);
        Check.same("18: rangeAt(1)", desk.rangeAt(1), 5005);
        Check.same("18: rangeAt(2)", desk.rangeAt(2), 9014);
        for (int k : new int[] {-1, 3, Integer.MAX_VALUE, Integer.MIN_VALUE}) {
            Check.fails("18: rangeAt(" + k + ")", Check.NO_INDEX, () -> desk.rangeAt(k));
        }
    }

    private static void rangesGrowTogether() {
        IssueDesk desk = new IssueDesk();
        desk.checkIn(0, 0);
        desk.checkIn(2, 0);
        Check.same("17: 0 and 2", desk.ranges(), 2);
        desk.checkIn(1, 0);
        Check.same("17: 0 to 2", desk.ranges(), 1);
        Check.same("18: rangeAt(0)", desk.rangeAt(0), 2);
        desk.checkIn(3, 3);
        Check.same("17: 0 to 6", desk.ranges(), 1);
        Check.same("18: rangeAt(0)", desk.rangeAt(0), 6);
    }

    private static void mostRanges() {
        IssueDesk desk = new IssueDesk();
        for (int issue = 1; issue < 200; issue += 2) {
            desk.checkIn(issue, 0);
        }
        Check.same("17: ranges", desk.ranges(), 100);
        for (int k = 0; k < 100; k++) {
            Check.same("18: rangeAt(" + k + ")", desk.rangeAt(k), 1001 * (2 * k + 1));
        }
        Check.fails("18: rangeAt(100)", Check.NO_INDEX, () -> desk.rangeAt(100));
        Check.same("19: isHeld(199)", desk.isHeld(199), true);
        Check.same("19: isHeld(198)", desk.isHeld(198), false);
    }

    private static void oneRangeOfAll() {
        IssueDesk desk = new IssueDesk();
        for (int issue = 0; issue < 200; issue += 5) {
            desk.checkIn(issue, 4);
        }
        Check.same("17: ranges", desk.ranges(), 1);
        Check.same("18: rangeAt(0)", desk.rangeAt(0), 199);
        Check.same("21: the last one", desk.only(true, 199), 199);
        Check.same("21: no more", desk.only(true, 200), IssueDesk.NONE);
        Check.same("19: isHeld(200)", desk.isHeld(200), false);
        Check.same("19: isHeld(-1)", desk.isHeld(-1), false);
    }

    private static void isHeld() {
        IssueDesk desk = some();
        for (int issue = -3; issue < 204; issue++) {
            boolean due = issue >= 0 && issue <= 2 || issue == 5 || issue >= 9 && issue <= 14;
            Check.same("19: isHeld(" + issue + ")", desk.isHeld(issue), due);
        }
        Check.same("19: far", desk.isHeld(Integer.MAX_VALUE), false);
        Check.same("19: far", desk.isHeld(Integer.MIN_VALUE), false);
    }

    private static void giveArguments() {
        IssueDesk desk = new IssueDesk();
        int[][] wrong = {{-1, 0}, {-1, -1}, {0, 200}, {1, 0}, {199, 198}, {200, 200}, {0, -1},
            {Integer.MIN_VALUE, 0}, {0, Integer.MAX_VALUE}, {Integer.MAX_VALUE, Integer.MAX_VALUE},
            {Integer.MIN_VALUE, Integer.MAX_VALUE}, {0, Integer.MIN_VALUE}};
        for (int[] one : wrong) {
            Check.fails("20: give(" + one[0] + ", " + one[1] + ")", Check.BAD_ARGUMENT,
                () -> desk.give(one[0], one[1]));
        }
        Check.same("20: nothing given", desk.only(false, 0), IssueDesk.NONE);
        Check.same("20: give(7, 7)", desk.give(7, 7), 1);
    }

    private static void give() {
        IssueDesk desk = new IssueDesk();
        Check.same("20: give(10, 19)", desk.give(10, 19), 10);
        Check.same("20: the same again", desk.give(10, 19), 10);
        Check.same("20: half new", desk.give(15, 24), 15);
        Check.same("20: apart", desk.give(0, 0), 16);
        Check.same("20: the last", desk.give(199, 199), 17);
        Check.same("20: all", desk.give(0, 199), 200);
        for (int k = 0; k < 200; k++) {
            Check.same("21: only(false, " + k + ")", desk.only(false, k), k);
        }
        Check.same("21: no more", desk.only(false, 200), IssueDesk.NONE);
    }

    private static void only() {
        IssueDesk desk = some();
        desk.give(1, 3);
        desk.give(12, 20);
        int[] here = {0, 5, 9, 10, 11, IssueDesk.NONE};
        int[] there = {3, 15, 16, 17, 18, 19, 20, IssueDesk.NONE};
        for (int k = 0; k < here.length; k++) {
            Check.same("21: only(true, " + k + ")", desk.only(true, k), here[k]);
        }
        for (int k = 0; k < there.length; k++) {
            Check.same("21: only(false, " + k + ")", desk.only(false, k), there[k]);
        }
        desk.give(0, 199);
        Check.same("21: nothing here alone", desk.only(true, 0), IssueDesk.NONE);
    }

    private static void onlyArguments() {
        IssueDesk desk = some();
        desk.give(50, 60);
        for (int k : new int[] {-1, Integer.MIN_VALUE}) {
            Check.fails("21: only(true, " + k + ")", Check.BAD_ARGUMENT, () -> desk.only(true, k));
            Check.fails("21: only(false, " + k + ")", Check.BAD_ARGUMENT, () -> desk.only(false, k));
        }
        Check.same("21: far k", desk.only(true, Integer.MAX_VALUE), IssueDesk.NONE);
        Check.same("21: far k", desk.only(false, Integer.MAX_VALUE), IssueDesk.NONE);
    }

    private static void giveIsNotHeld() {
        IssueDesk desk = new IssueDesk();
        desk.give(0, 5);
        Check.same("20: ranges", desk.ranges(), 0);
        Check.same("20: isHeld(0)", desk.isHeld(0), false);
        Check.same("20: foretold", desk.foretold(), 1);
        Check.same("20: stateOf(0)", desk.stateOf(0), IssueDesk.WAITED);
    }
}
