/** The sentences of Terms on claims and holdings. */
final class ClaimAndHoldingEdges {
    private ClaimAndHoldingEdges() {
    }

    /** A desk that waits for the issue 0 alone until the day 90. */
    private static IssueDesk slow() {
        return Stories.after(desk -> desk.setPattern(90, 12, true, 0));
    }

    @Sentence(in = "Terms", says = "There is a grace, 7 days at first, and a pause, 30 days at first.")
    static void graceAndPauseAtFirst() {
        IssueDesk desk = slow();
        desk.advance(7);
        Check.same("late at the day 7", desk.late(), 0);
        Check.same("round at the day 7", desk.round(), 0);
        desk.advance(1);
        Check.same("late at the day 8", desk.late(), 1);
        Check.same("round at the day 8", desk.round(), 1);
        desk.advance(29);
        Check.same("round 29 days later", desk.round(), 0);
        desk.advance(1);
        Check.same("round 30 days later", desk.round(), 1);
    }

    @Sentence(in = "Terms",
        says = "An issue that is WAITED for is late if today is more than the grace behind its day.")
    static void lateIfMoreThanTheGraceBehind() {
        for (int grace : new int[] {0, 1, 7, 50, 100}) {
            IssueDesk desk = new IssueDesk();
            desk.setClaims(grace, 1);
            desk.setPattern(90, 12, true, 2047);
            Check.same("at its day", desk.late(), 0);
            if (grace > 0) {
                desk.advance(grace);
            }
            Check.same("the grace " + grace + " behind its day", desk.late(), 0);
            Check.same("no claim", desk.round(), 0);
            desk.advance(1);
            Check.same("a day more", desk.late(), 1);
            Check.same("a claim", desk.round(), 1);
        }
        IssueDesk desk = new IssueDesk();
        desk.setClaims(0, 1);
        desk.checkIn(3, 0);
        Check.same("the days of 1 and 2 are ahead", desk.late(), 0);
        desk.advance(30);
        Check.same("today is the day of 1", desk.late(), 1);
        desk.advance(1);
        Check.same("0 and 1", desk.late(), 2);
        desk.skip(0);
        Check.same("a skipped one is not", desk.late(), 1);
        desk.checkIn(1, 1);
        Check.same("a held one is not", desk.late(), 0);
        desk.advance(50);
        Check.same("nor is a bound one", desk.late(), 0);
        desk.advance(40);
        Check.same("4, whose day is 120, is", desk.late(), 1);
    }

    @Sentence(in = "Terms", says = "A round goes through all late issues by rising numbers:")
    static void aRoundGoesThroughAllLateIssues() {
        IssueDesk desk = new IssueDesk();
        desk.setPattern(1, 12, true, 0);
        desk.setClaims(0, 1);
        desk.advance(199);
        Check.same("0 to 198 are claimed", desk.round(), 199);
        Check.same("199 is not late", desk.claimsOf(199), 0);
        desk.advance(1);
        Check.same("0 to 199 are claimed", desk.round(), 200);
        Check.same("claimsOf(0)", desk.claimsOf(0), 2);
        Check.same("claimsOf(198)", desk.claimsOf(198), 2);
        Check.same("claimsOf(199)", desk.claimsOf(199), 1);
        Check.same("late", desk.late(), 200);
    }

    @Sentence(in = "Terms", says = "one that was never claimed")
    static void aNeverClaimedOneIsClaimedWhateverThePause() {
        for (int pause : new int[] {1, 100}) {
            IssueDesk desk = new IssueDesk();
            desk.setClaims(0, pause);
            desk.advance(1);
            Check.same("a pause of " + pause + " at the day 1", desk.round(), 1);
            Check.same("claimsOf(0)", desk.claimsOf(0), 1);
            desk.advance(30);
            Check.same("another one's claim is no claim of it", desk.claimsOf(1), 0);
            desk.round();
            Check.same("claimsOf(1)", desk.claimsOf(1), 1);
        }
    }

    @Sentence(in = "Terms", says = "or was claimed last as many days ago as the pause or more, is claimed")
    static void claimedAgainBehindThePause() {
        for (int pause : new int[] {1, 2, 30, 100}) {
            for (int over = -1; over <= 1; over++) {
                IssueDesk desk = slow();
                desk.setClaims(0, pause);
                desk.advance(5);
                Check.same("first", desk.round(), 1);
                if (pause + over > 0) {
                    desk.advance(pause + over);
                }
                desk.round();
                Check.same("a pause of " + pause + " and " + over, desk.claimsOf(0), over < 0 ? 1 : 2);
            }
        }
        IssueDesk last = slow();
        last.setClaims(0, 10);
        last.advance(1);
        last.round();
        last.advance(15);
        last.round();
        last.advance(9);
        Check.same("24 behind the first claim, 9 behind the last", last.round(), 0);
        last.advance(1);
        Check.same("10 behind the last", last.round(), 1);
        IssueDesk refusedRound = slow();
        refusedRound.setClaims(0, 10);
        refusedRound.advance(1);
        refusedRound.round();
        refusedRound.advance(9);
        refusedRound.round();
        refusedRound.advance(1);
        Check.same("a round that claims nothing begins no pause", refusedRound.round(), 1);
    }

    @Sentence(in = "Terms", says = "if it was claimed less than three times;")
    static void claimedThreeTimesAtMost() {
        IssueDesk desk = slow();
        desk.setClaims(0, 1);
        for (int claims = 1; claims <= 3; claims++) {
            desk.advance(1);
            Check.same("claim " + claims, desk.round(), 1);
            Check.same("claimsOf(0)", desk.claimsOf(0), claims);
            Check.same("stateOf(0)", desk.stateOf(0), IssueDesk.WAITED);
        }
        desk.advance(1);
        Check.same("no fourth one", desk.round(), 0);
        Check.same("claimsOf(0)", desk.claimsOf(0), 3);
    }

    @Sentence(in = "Terms", says = "otherwise it is SKIPPED.")
    static void skippedBehindThreeClaims() {
        for (int pause : new int[] {1, 5, 100}) {
            IssueDesk desk = slow();
            desk.setClaims(0, pause);
            for (int claims = 1; claims <= 3; claims++) {
                desk.advance(pause);
                desk.round();
            }
            desk.round();
            Check.same("the day of the third claim", desk.stateOf(0), IssueDesk.WAITED);
            if (pause > 1) {
                desk.advance(pause - 1);
                desk.round();
                Check.same("a day before the pause is over", desk.stateOf(0), IssueDesk.WAITED);
            }
            desk.advance(1);
            desk.round();
            Check.same("the pause is over", desk.stateOf(0), IssueDesk.SKIPPED);
            Check.same("claimsOf(0)", desk.claimsOf(0), 3);
        }
        IssueDesk once = slow();
        once.advance(8);
        once.round();
        once.round();
        Check.same("claimed once and in the pause", once.stateOf(0), IssueDesk.WAITED);
        IssueDesk grace = slow();
        grace.setClaims(0, 1);
        for (int claims = 1; claims <= 3; claims++) {
            grace.advance(1);
            grace.round();
        }
        grace.setClaims(50, 1);
        grace.advance(47);
        grace.round();
        Check.same("not late any more, so not skipped", grace.stateOf(0), IssueDesk.WAITED);
        grace.advance(1);
        grace.round();
        Check.same("late again", grace.stateOf(0), IssueDesk.SKIPPED);
    }

    @Sentence(in = "Terms", says = "The holdings are the issues that are HELD or BOUND, "
        + "as ranges of issues that follow one another, as few as possible, by rising numbers.")
    static void asFewRangesAsPossibleByRisingNumbers() {
        rangesAre(new IssueDesk());
        IssueDesk desk = new IssueDesk();
        desk.checkIn(199, 0);
        rangesAre(desk, 199199);
        desk.checkIn(0, 0);
        rangesAre(desk, 0, 199199);
        desk.checkIn(2, 0);
        rangesAre(desk, 0, 2002, 199199);
        desk.skip(1);
        rangesAre(desk, 0, 2002, 199199);
        desk.checkIn(4, 1);
        rangesAre(desk, 0, 2002, 4005, 199199);
        desk.checkIn(3, 0);
        rangesAre(desk, 0, 2005, 199199);
        desk.checkIn(6, 5);
        rangesAre(desk, 0, 2011, 199199);
        desk.checkIn(193, 5);
        rangesAre(desk, 0, 2011, 193199);
        for (int issue = 12; issue <= 186; issue += 6) {
            desk.checkIn(issue, 5);
        }
        rangesAre(desk, 0, 2191, 193199);
        desk.checkIn(192, 0);
        rangesAre(desk, 0, 2199);
        IssueDesk whole = new IssueDesk();
        for (int issue = 195; issue >= 0; issue -= 5) {
            whole.checkIn(issue, 4);
        }
        rangesAre(whole, 199);
        IssueDesk apart = new IssueDesk();
        int[] due = new int[100];
        for (int k = 99; k >= 0; k--) {
            apart.checkIn(2 * k, 0);
            due[k] = 2 * k * 1001;
        }
        rangesAre(apart, due);
    }

    private static void rangesAre(IssueDesk desk, int... due) {
        Check.same("ranges", desk.ranges(), due.length);
        for (int k = 0; k < due.length; k++) {
            Check.same("rangeAt(" + k + ")", desk.rangeAt(k), due[k]);
        }
        Check.fails("rangeAt(" + due.length + ")", Check.NO_INDEX, () -> desk.rangeAt(due.length));
    }
}
