/** Promises 3 (setClaims), 7 (round), 13 (claimsOf), 16 (late). */
public final class ClaimsTest {
    public static void main(String[] args) {
        claimArguments();
        defaults();
        graceAndLate();
        lateCountsOnlyWaited();
        pauseBetweenClaims();
        threeClaimsThenSkipped();
        skippedOnlyAfterThePause();
        fewerDaysByANewPause();
        newGraceAfterAClaim();
        whatCameIsNotClaimed();
        futureIssuesAreNotLate();
        claimsOf();
        Check.end();
    }

    private static void claimArguments() {
        int[][] wrong = {{-1, 1}, {101, 1}, {0, 0}, {0, -1}, {0, 101}, {Integer.MIN_VALUE, 1},
            {Integer.MAX_VALUE, 1}, {0, Integer.MIN_VALUE}, {0, Integer.MAX_VALUE}};
        IssueDesk desk = new IssueDesk();
        for (int[] one : wrong) {
            Check.fails("3: setClaims(" + one[0] + ", " + one[1] + ")", Check.BAD_ARGUMENT,
                () -> desk.setClaims(one[0], one[1]));
        }
        desk.advance(7);
        Check.same("3: the grace after throws", desk.late(), 0);
        desk.advance(1);
        Check.same("3: the grace after throws", desk.late(), 1);
        desk.round();
        desk.advance(29);
        Check.same("3: the pause after throws", desk.round(), 0);
        desk.advance(1);
        Check.same("3: the pause after throws", desk.round(), 2);
        desk.setClaims(0, 1);
        desk.setClaims(100, 100);
        desk.setClaims(0, 100);
        desk.setClaims(100, 1);
    }

    private static void defaults() {
        IssueDesk desk = new IssueDesk();
        desk.setPattern(90, 1, true, 0);
        desk.advance(7);
        Check.same("3: day 7", desk.late(), 0);
        desk.advance(1);
        Check.same("3: day 8", desk.late(), 1);
        Check.same("7: first claim", desk.round(), 1);
        desk.advance(29);
        Check.same("7: 29 days later", desk.round(), 0);
        desk.advance(1);
        Check.same("7: 30 days later", desk.round(), 1);
        Check.same("13: claimsOf(0)", desk.claimsOf(0), 2);
    }

    private static void graceAndLate() {
        IssueDesk desk = new IssueDesk();
        desk.setPattern(90, 1, true, 0);
        desk.setClaims(0, 1);
        Check.same("16: day 0, grace 0", desk.late(), 0);
        Check.same("7: nothing late", desk.round(), 0);
        desk.advance(1);
        Check.same("16: day 1, grace 0", desk.late(), 1);
        desk.setClaims(1, 1);
        Check.same("16: day 1, grace 1", desk.late(), 0);
        Check.same("7: nothing late", desk.round(), 0);
        desk.setClaims(100, 1);
        desk.advance(99);
        Check.same("16: day 100, grace 100", desk.late(), 0);
        desk.advance(1);
        Check.same("16: day 101, grace 100", desk.late(), 1);
    }

    private static void lateCountsOnlyWaited() {
        IssueDesk desk = new IssueDesk();
        desk.advance(300);
        Check.same("16: 0 to 9 of 11", desk.late(), 10);
        desk.checkIn(0, 2);
        Check.same("16: three came", desk.late(), 7);
        desk.skip(5);
        Check.same("16: one does not appear", desk.late(), 6);
        Check.same("16: a round changes nothing in it", desk.round(), 6);
        Check.same("16: late", desk.late(), 6);
    }

    private static void pauseBetweenClaims() {
        IssueDesk desk = new IssueDesk();
        desk.setPattern(90, 1, true, 0);
        desk.setClaims(0, 10);
        desk.advance(5);
        Check.same("7: first", desk.round(), 1);
        Check.same("7: the same day", desk.round(), 0);
        Check.same("13: claimsOf", desk.claimsOf(0), 1);
        desk.advance(9);
        Check.same("7: a day too soon", desk.round(), 0);
        desk.advance(1);
        Check.same("7: as many days as the pause", desk.round(), 1);
        desk.advance(9);
        Check.same("7: counted from the last claim", desk.round(), 0);
        desk.advance(20);
        Check.same("7: more days than the pause", desk.round(), 1);
        Check.same("13: claimsOf", desk.claimsOf(0), 3);
    }

    private static void threeClaimsThenSkipped() {
        IssueDesk desk = new IssueDesk();
        desk.setPattern(90, 1, true, 0);
        desk.setClaims(0, 1);
        for (int claim = 1; claim <= 3; claim++) {
            desk.advance(1);
            Check.same("7: claim " + claim, desk.round(), 1);
            Check.same("13: claimsOf", desk.claimsOf(0), claim);
            Check.same("7: still waited for", desk.stateOf(0), IssueDesk.WAITED);
        }
        desk.advance(1);
        Check.same("7: none is claimed", desk.round(), 0);
        Check.same("7: skipped", desk.stateOf(0), IssueDesk.SKIPPED);
        Check.same("13: claimsOf stays", desk.claimsOf(0), 3);
        Check.same("16: late", desk.late(), 0);
        desk.advance(1);
        Check.same("7: a skipped one is not claimed", desk.round(), 0);
        Check.same("13: claimsOf stays", desk.claimsOf(0), 3);
        Check.fails("7: it can't come any more", Check.BAD_STATE, () -> desk.checkIn(0, 0));
    }

    private static void skippedOnlyAfterThePause() {
        IssueDesk desk = new IssueDesk();
        desk.setPattern(90, 1, true, 0);
        desk.setClaims(0, 5);
        for (int claim = 1; claim <= 3; claim++) {
            desk.advance(5);
            desk.round();
        }
        Check.same("7: none", desk.round(), 0);
        Check.same("7: the same day", desk.stateOf(0), IssueDesk.WAITED);
        desk.advance(4);
        Check.same("7: none", desk.round(), 0);
        Check.same("7: a day too soon", desk.stateOf(0), IssueDesk.WAITED);
        desk.advance(1);
        Check.same("7: none", desk.round(), 0);
        Check.same("7: after the pause", desk.stateOf(0), IssueDesk.SKIPPED);
    }

    private static void fewerDaysByANewPause() {
        IssueDesk desk = new IssueDesk();
        desk.setPattern(90, 1, true, 0);
        desk.advance(10);
        Check.same("7: first", desk.round(), 1);
        desk.advance(10);
        Check.same("7: pause 30", desk.round(), 0);
        desk.setClaims(7, 11);
        Check.same("7: pause 11", desk.round(), 0);
        desk.setClaims(7, 10);
        Check.same("7: pause 10", desk.round(), 1);
    }

    private static void newGraceAfterAClaim() {
        IssueDesk desk = new IssueDesk();
        desk.setPattern(90, 1, true, 0);
        desk.setClaims(0, 1);
        for (int claim = 1; claim <= 3; claim++) {
            desk.advance(1);
            desk.round();
        }
        desk.setClaims(50, 1);
        desk.advance(10);
        Check.same("7: none", desk.round(), 0);
        Check.same("7: not late by the new grace, so not skipped", desk.stateOf(0), IssueDesk.WAITED);
    }

    private static void whatCameIsNotClaimed() {
        IssueDesk desk = new IssueDesk();
        desk.advance(300);
        desk.checkIn(2, 1);
        desk.skip(6);
        Check.same("7: claimed", desk.round(), 7);
        int[] due = {1, 1, 0, 0, 1, 1, 0, 1, 1, 1, 0};
        for (int issue = 0; issue < due.length; issue++) {
            Check.same("13: claimsOf(" + issue + ")", desk.claimsOf(issue), due[issue]);
        }
        desk.checkIn(0, 1);
        desk.advance(30);
        Check.same("7: claimed ones that came since", desk.round(), 6);
        Check.same("13: claimsOf(0) stays", desk.claimsOf(0), 1);
        Check.same("13: claimsOf(4)", desk.claimsOf(4), 2);
        Check.same("13: claimsOf(10)", desk.claimsOf(10), 1);
    }

    private static void futureIssuesAreNotLate() {
        IssueDesk desk = new IssueDesk();
        desk.setClaims(0, 1);
        desk.checkIn(50, 0);
        Check.same("16: none", desk.late(), 0);
        Check.same("7: none", desk.round(), 0);
        desk.advance(31);
        Check.same("16: 0 and 1", desk.late(), 2);
        Check.same("7: 0 and 1", desk.round(), 2);
        Check.same("13: claimsOf(2)", desk.claimsOf(2), 0);
    }

    private static void claimsOf() {
        IssueDesk desk = new IssueDesk();
        desk.advance(30);
        for (int issue : new int[] {-1, 2, 199, 200, Integer.MAX_VALUE, Integer.MIN_VALUE}) {
            Check.fails("13: claimsOf(" + issue + ")", Check.NO_INDEX, () -> desk.claimsOf(issue));
        }
        Check.same("13: claimsOf(1)", desk.claimsOf(1), 0);
        desk.checkIn(199, 0);
        Check.same("13: claimsOf(199)", desk.claimsOf(199), 0);
    }
}
