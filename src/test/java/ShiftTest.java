/** Promise 10 (shift), and what the check-ins of promise 5 do to it. */
public final class ShiftTest {
    public static void main(String[] args) {
        threeAlike();
        shiftIsUsedOnce();
        widths();
        zeroIsNone();
        earlyShiftWaits();
        atLeastTheNextDay();
        otherDifferenceBeginsAnew();
        waitedBetween();
        boundAndSkippedBetween();
        heldBetween();
        skippedLaterDoesNotCount();
        thirdMustFollow();
        countsBeginAnew();
        fourthNeedNotFollow();
        boundDoNotCount();
        shiftsAddUp();
        throwDoesNotCount();
        Check.end();
    }

    private static void threeAlike() {
        IssueDesk desk = new IssueDesk();
        desk.advance(5);
        desk.checkIn(0, 0);
        desk.advance(30);
        desk.checkIn(1, 0);
        Check.same("10: after two", desk.shift(), 0);
        desk.advance(30);
        desk.checkIn(2, 0);
        Check.same("10: after three", desk.shift(), 5);
        desk.advance(29);
        Check.same("10: it waits", desk.shift(), 5);
        Check.same("10: foretold at 94", desk.foretold(), 3);
        desk.advance(1);
        Check.same("10: foretold at 95", desk.foretold(), 4);
        Check.same("10: dayOf(3)", desk.dayOf(3), 95);
        Check.same("10: used", desk.shift(), 0);
        Check.same("10: dayOf(2) stays", desk.dayOf(2), 60);
    }

    private static void shiftIsUsedOnce() {
        IssueDesk desk = new IssueDesk();
        desk.advance(5);
        for (int issue = 0; issue < 3; issue++) {
            desk.checkIn(issue, 0);
            desk.advance(30);
        }
        Check.same("10: used", desk.shift(), 0);
        Check.same("10: dayOf(3)", desk.dayOf(3), 95);
        desk.advance(30);
        Check.same("10: dayOf(4)", desk.dayOf(4), 125);
    }

    private static void widths() {
        for (int difference = -17; difference <= 17; difference++) {
            IssueDesk desk = Stories.after(Stories::allForetold);
            desk.advance(20);
            for (int issue = 4; issue < 7; issue++) {
                Stories.comeAt(desk, issue, 0, difference);
            }
            boolean counts = difference != 0 && difference >= -15 && difference <= 15;
            Check.same("10: difference " + difference, desk.shift(), counts ? difference : 0);
        }
    }

    private static void zeroIsNone() {
        IssueDesk desk = Stories.after(Stories::allForetold);
        for (int issue = 0; issue < 6; issue++) {
            Stories.comeAt(desk, issue, 0, 0);
        }
        Check.same("10: in time", desk.shift(), 0);
        for (int issue = 6; issue < 9; issue++) {
            Stories.comeAt(desk, issue, 0, 1);
        }
        Check.same("10: then a day late", desk.shift(), 1);
    }

    private static void earlyShiftWaits() {
        IssueDesk desk = new IssueDesk();
        desk.checkIn(5, 0);
        desk.setPattern(1, 12, true, 0);
        desk.advance(45);
        desk.checkIn(2, 0);
        desk.advance(30);
        desk.checkIn(3, 0);
        desk.advance(30);
        Check.same("10: day", desk.day(), 105);
        Check.same("10: the third", desk.checkIn(4, 0), 6);
        Check.same("10: shift", desk.shift(), -15);
        desk.advance(45);
        // at day 150 the next would get 151 at least: the shift of -15 can't bring it before the one before it
        Check.same("10: foretold at 150", desk.foretold(), 6);
        Check.same("10: waits", desk.shift(), -15);
        desk.advance(1);
        Check.same("10: dayOf(6)", desk.dayOf(6), 151);
        Check.same("10: shift is used up", desk.shift(), 0);
    }

    private static void atLeastTheNextDay() {
        IssueDesk desk = tenEarlyWithGapThree();
        Check.same("10: waiting", desk.shift(), -10);
        Check.same("10: checkIn of the next two", desk.checkIn(11, 1), 13);
        Check.same("10: at least the next day", desk.dayOf(11), 301);
        Check.same("10: then the gap", desk.dayOf(12), 304);
        Check.same("10: the shift is 0 then", desk.shift(), 0);
        IssueDesk skipping = tenEarlyWithGapThree();
        skipping.setPattern(3, 12, true, 1 << 10);
        skipping.checkIn(11, 0);
        Check.same("10: the next day is in a skipped month", skipping.dayOf(11), 330);
        IssueDesk part = tenEarlyWithGapThree();
        part.setPattern(14, 12, true, 0);
        part.checkIn(11, 0);
        Check.same("10: a gap above the shift", part.dayOf(11), 304);
    }

    /** A shift of -10 waits, the issue 10 has the day 300, and the gap is 3. */
    private static IssueDesk tenEarlyWithGapThree() {
        IssueDesk desk = new IssueDesk();
        desk.checkIn(10, 0);
        desk.setPattern(3, 12, true, 0);
        for (int issue = 1; issue < 4; issue++) {
            Stories.comeAt(desk, issue, 0, -10);
        }
        return desk;
    }

    private static void otherDifferenceBeginsAnew() {
        IssueDesk desk = Stories.after(Stories::allForetold);
        Stories.comeAt(desk, 0, 0, 4);
        Stories.comeAt(desk, 1, 0, 4);
        Stories.comeAt(desk, 2, 0, 5);
        Check.same("10: 4, 4, 5", desk.shift(), 0);
        Stories.comeAt(desk, 3, 0, 5);
        Check.same("10: 4, 4, 5, 5", desk.shift(), 0);
        Stories.comeAt(desk, 4, 0, 4);
        Stories.comeAt(desk, 5, 0, 4);
        Check.same("10: 5, 5, 4, 4", desk.shift(), 0);
        Stories.comeAt(desk, 6, 0, 4);
        Check.same("10: 4, 4, 4", desk.shift(), 4);
    }

    private static void waitedBetween() {
        IssueDesk desk = Stories.after(Stories::allForetold);
        Stories.comeAt(desk, 0, 0, 4);
        Stories.comeAt(desk, 2, 0, 4);
        Stories.comeAt(desk, 3, 0, 4);
        Check.same("10: 0, 2, 3 while 1 waits", desk.shift(), 0);
        Stories.comeAt(desk, 4, 0, 4);
        Check.same("10: 2, 3, 4", desk.shift(), 4);
    }

    private static void boundAndSkippedBetween() {
        IssueDesk desk = Stories.after(Stories::allForetold);
        Stories.comeAt(desk, 0, 2, 4);
        desk.skip(4);
        desk.skip(5);
        Stories.comeAt(desk, 3, 0, 4);
        Stories.comeAt(desk, 6, 0, 4);
        Check.same("10: over bound and skipped ones", desk.shift(), 4);
    }

    private static void heldBetween() {
        IssueDesk desk = Stories.after(Stories::allForetold);
        Stories.comeAt(desk, 1, 0, 2);
        Stories.comeAt(desk, 0, 0, 12);
        Stories.comeAt(desk, 2, 0, 12);
        Stories.comeAt(desk, 3, 0, 12);
        // 1 is held between 0 and 2, so 2 doesn't follow 0
        Check.same("10: over a held one", desk.shift(), 0);
        Stories.comeAt(desk, 4, 0, 12);
        Check.same("10: 2, 3, 4", desk.shift(), 12);
    }

    private static void skippedLaterDoesNotCount() {
        IssueDesk desk = Stories.after(Stories::allForetold);
        Stories.comeAt(desk, 0, 0, 4);
        Stories.comeAt(desk, 2, 0, 4);
        desk.skip(1);
        Stories.comeAt(desk, 3, 0, 4);
        Check.same("10: 1 was waited for when 2 came", desk.shift(), 0);
        Stories.comeAt(desk, 4, 0, 4);
        Check.same("10: 2, 3, 4", desk.shift(), 4);
    }

    private static void thirdMustFollow() {
        IssueDesk desk = Stories.after(Stories::allForetold);
        Stories.comeAt(desk, 0, 0, 4);
        Stories.comeAt(desk, 1, 0, 4);
        Stories.comeAt(desk, 3, 0, 4);
        Check.same("10: 3 doesn't follow 1", desk.shift(), 0);
        Stories.comeAt(desk, 4, 0, 4);
        Check.same("10: 3, 4", desk.shift(), 0);
        Stories.comeAt(desk, 5, 0, 4);
        Check.same("10: 3, 4, 5", desk.shift(), 4);
    }

    private static void countsBeginAnew() {
        IssueDesk desk = Stories.after(Stories::allForetold);
        int[] due = {0, 0, 4, 4, 4, 8, 8, 8, 12};
        for (int issue = 0; issue < due.length; issue++) {
            Stories.comeAt(desk, issue, 0, 4);
            Check.same("10: after issue " + issue, desk.shift(), due[issue]);
        }
    }

    private static void fourthNeedNotFollow() {
        IssueDesk desk = Stories.after(Stories::allForetold);
        for (int issue = 0; issue < 3; issue++) {
            Stories.comeAt(desk, issue, 0, 4);
        }
        for (int issue = 10; issue < 13; issue++) {
            Stories.comeAt(desk, issue, 0, 4);
        }
        Check.same("10: three, and three elsewhere", desk.shift(), 8);
    }

    private static void boundDoNotCount() {
        IssueDesk desk = Stories.after(Stories::allForetold);
        Stories.comeAt(desk, 0, 2, 4);
        Check.same("10: one with two bound", desk.shift(), 0);
        Stories.comeAt(desk, 3, 5, 4);
        Check.same("10: two with seven bound", desk.shift(), 0);
        Stories.comeAt(desk, 9, 1, 4);
        Check.same("10: three with eight bound", desk.shift(), 4);
    }

    private static void shiftsAddUp() {
        IssueDesk desk = Stories.after(Stories::allForetold);
        for (int issue = 2; issue < 5; issue++) {
            Stories.comeAt(desk, issue, 0, -7);
        }
        Check.same("10: shift", desk.shift(), -7);
        for (int issue = 5; issue < 8; issue++) {
            Stories.comeAt(desk, issue, 0, 9);
        }
        Check.same("10: shift", desk.shift(), 2);
    }

    private static void throwDoesNotCount() {
        IssueDesk desk = Stories.after(Stories::allForetold);
        Stories.comeAt(desk, 0, 0, 4);
        Stories.comeAt(desk, 1, 0, 4);
        Check.fails("10: twice", Check.BAD_STATE, () -> desk.checkIn(1, 0));
        Check.fails("10: bound", Check.BAD_ARGUMENT, () -> desk.checkIn(2, 9));
        Check.fails("10: issue", Check.NO_INDEX, () -> desk.checkIn(200, 0));
        Check.same("10: shift", desk.shift(), 0);
        Stories.comeAt(desk, 2, 0, 4);
        Check.same("10: throws don't break the run", desk.shift(), 4);
    }
}
