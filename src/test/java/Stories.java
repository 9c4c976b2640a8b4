/** Runs of calls that bring a desk to where a test begins; each has so few that 512 are far away. */
final class Stories {
    interface Story {
        void tell(IssueDesk desk);
    }

    private Stories() {
    }

    static IssueDesk after(Story story) {
        IssueDesk desk = new IssueDesk();
        story.tell(desk);
        return desk;
    }

    static void advanceTo(IssueDesk desk, int day) {
        for (int today = desk.day(); today < day; today = desk.day()) {
            desk.advance(Math.min(400, day - today));
        }
    }

    /** Checks a foretold issue in at so many days behind its day (or today, if that has passed). */
    static void comeAt(IssueDesk desk, int issue, int bound, int difference) {
        advanceTo(desk, desk.dayOf(issue) + difference);
        desk.checkIn(issue, bound);
    }

    /**
     * At the day 174 nothing is as it was at first: 0 is waited for, late and claimed twice, the last time today;
     * 1 to 3, 5, 7 and 12 are held, 6 and 13 bound, 4 is skipped, 8 to 11 are waited for; a shift of 4 waits;
     * two check-ins with the difference 4 want but a third one, of the issue 8 at the day 194.
     */
    static void busy(IssueDesk desk) {
        desk.setClaims(3, 5);
        desk.setPattern(20, 5, false, 4);
        desk.give(2, 9);
        desk.checkIn(12, 1);
        comeAt(desk, 1, 0, 4);
        comeAt(desk, 2, 0, 4);
        comeAt(desk, 3, 0, 4);
        desk.skip(4);
        desk.round();
        comeAt(desk, 5, 1, 4);
        comeAt(desk, 7, 0, 4);
        desk.round();
    }

    /** Busy, and then the day 7174, when not all issues are foretold. */
    static void nearTheEnd(IssueDesk desk) {
        busy(desk);
        desk.setPattern(90, 5, false, 4);
        advanceTo(desk, 7174);
    }

    /** All issues are foretold, 10 days apart, so that a shift can only wait; the issue 199 has come. */
    static void allForetold(IssueDesk desk) {
        desk.setPattern(10, 12, true, 0);
        desk.checkIn(199, 0);
    }

    /** 21 issues are foretold, the last for the day 600, and a shift waits that three early check-ins made. */
    static void early(IssueDesk desk, int difference) {
        desk.checkIn(20, 0);
        for (int issue = 1; issue < 4; issue++) {
            comeAt(desk, issue, 0, difference);
        }
    }
}
