/** The sentences of the promises 8 (day) to 16 (late): what there is. */
final class Promise08To16Edges {
    private interface Asking {
        int ask(IssueDesk desk, int issue);
    }

    private Promise08To16Edges() {
    }

    /** An asking for an issue that is foretold: what is refused at a new object, in between, and at the end. */
    private static void refusedIfNotForetold(String name, Asking asking) {
        for (int issue : new int[] {-200, -1, 1, 199, 200}) {
            refused(name, asking, issue, desk -> { });
        }
        for (int issue : new int[] {-1, 14, 15, 199, 200}) {
            refused(name, asking, issue, Stories::busy);
        }
        for (int issue : new int[] {-1, 200, 201}) {
            refused(name, asking, issue, Stories::allForetold);
        }
        for (int issue : Check.FAR) {
            refused(name, asking, issue, Stories::busy);
            refused(name, asking, issue, Stories::allForetold);
        }
    }

    private static void refused(String name, Asking asking, int issue, Stories.Story before) {
        Refusal.of(name + "(" + issue + ")", Check.NO_INDEX, before, desk -> asking.ask(desk, issue));
    }

    // ---- Promise 8

    @Sentence(in = "Promise 8", says = "Returns the day.")
    static void promise8TheDay() {
        IssueDesk desk = new IssueDesk();
        Check.same("the first day", desk.day(), 0);
        desk.advance(1);
        Check.same("a day later", desk.day(), 1);
        desk.checkIn(150, 3);
        desk.setPattern(90, 1, true, 4094);
        desk.round();
        desk.skip(0);
        desk.give(0, 9);
        Check.same("only advance lets days pass", desk.day(), 1);
        Stories.advanceTo(desk, 7200);
        Check.same("the last day", desk.day(), 7200);
    }

    // ---- Promise 9

    @Sentence(in = "Promise 9", says = "Returns how many issues are foretold.")
    static void promise9HowManyAreForetold() {
        IssueDesk desk = new IssueDesk();
        Check.same("at first", desk.foretold(), 1);
        desk.skip(0);
        Check.same("a skipped one is foretold too", desk.foretold(), 1);
        desk.advance(30);
        Check.same("another one", desk.foretold(), 2);
        desk.checkIn(197, 1);
        Check.same("all but one", desk.foretold(), 199);
        desk.checkIn(199, 0);
        Check.same("all", desk.foretold(), 200);
        Stories.advanceTo(desk, 7200);
        Check.same("no further one", desk.foretold(), 200);
    }

    // ---- Promise 10

    @Sentence(in = "Promise 10", says = "Returns the shift that waits.")
    static void promise10TheShiftThatWaits() {
        Check.same("at first", new IssueDesk().shift(), 0);
        IssueDesk negative = Stories.after(desk -> Stories.early(desk, -15));
        Check.same("below 0", negative.shift(), -15);
        negative.checkIn(21, 0);
        Check.same("used up", negative.shift(), 0);
        IssueDesk many = Stories.after(Stories::allForetold);
        for (int issue = 0; issue < 199; issue++) {
            many.advance(issue == 0 ? 15 : 10);
            many.checkIn(issue, 0);
        }
        Check.same("66 shifts of 15 that nothing uses up", many.shift(), 990);
        many.advance(400);
        Check.same("days change nothing in it", many.shift(), 990);
    }

    // ---- Promise 11

    @Sentence(in = "Promise 11", says = "Returns the day of an issue.")
    static void promise11TheDayOfAnIssue() {
        IssueDesk desk = Stories.after(Stories::busy);
        Check.same("one that is waited for", desk.dayOf(0), 0);
        Check.same("one that came late", desk.dayOf(1), 20);
        Check.same("a skipped one", desk.dayOf(4), 110);
        Check.same("a bound one", desk.dayOf(6), 150);
        Check.same("one whose day is ahead", desk.dayOf(11), 250);
    }

    @Sentence(in = "Promise 11", says = "`issue`: an issue that is foretold")
    static void promise11AForetoldIssue() {
        Check.same("the first one", new IssueDesk().dayOf(0), 0);
        Check.same("the last foretold one", Stories.after(Stories::busy).dayOf(13), 290);
        Check.same("the last one", Stories.after(Stories::allForetold).dayOf(199), 1990);
    }

    @Sentence(in = "Promise 11", says = "Returns the day.")
    static void promise11AboveTheLastDayToo() {
        IssueDesk desk = new IssueDesk();
        desk.setPattern(90, 12, true, 4094);
        desk.checkIn(199, 0);
        Check.same("the farthest day", desk.dayOf(199), 199 * 360);
        Check.same("the one before it", desk.dayOf(198), 198 * 360);
    }

    @Sentence(in = "Promise 11", says = "Throws `IndexOutOfBoundsException` if it is not foretold")
    static void promise11NotForetold() {
        refusedIfNotForetold("dayOf", IssueDesk::dayOf);
    }

    // ---- Promise 12

    @Sentence(in = "Promise 12", says = "Returns the state of an issue.")
    static void promise12TheStateOfAnIssue() {
        IssueDesk desk = Stories.after(Stories::busy);
        int[] due = {0, 1, 1, 1, 3, 1, 2, 1, 0, 0, 0, 0, 1, 2};
        for (int issue = 0; issue < due.length; issue++) {
            Check.same("stateOf(" + issue + ")", desk.stateOf(issue), due[issue]);
        }
    }

    @Sentence(in = "Promise 12", says = "`issue`: an issue that is foretold")
    static void promise12AForetoldIssue() {
        Check.same("the first one", new IssueDesk().stateOf(0), IssueDesk.WAITED);
        Check.same("the last foretold one", Stories.after(Stories::busy).stateOf(13), IssueDesk.BOUND);
        Check.same("the last one", Stories.after(Stories::allForetold).stateOf(199), IssueDesk.HELD);
    }

    @Sentence(in = "Promise 12", says = "Returns WAITED, HELD, BOUND or SKIPPED.")
    static void promise12OneOfTheFour() {
        IssueDesk desk = new IssueDesk();
        desk.checkIn(1, 1);
        desk.skip(0);
        desk.advance(90);
        Check.same("WAITED", desk.stateOf(3), 0);
        Check.same("HELD", desk.stateOf(1), 1);
        Check.same("BOUND", desk.stateOf(2), 2);
        Check.same("SKIPPED", desk.stateOf(0), 3);
    }

    @Sentence(in = "Promise 12", says = "Throws `IndexOutOfBoundsException` if it is not foretold")
    static void promise12NotForetold() {
        refusedIfNotForetold("stateOf", IssueDesk::stateOf);
    }

    // ---- Promise 13

    @Sentence(in = "Promise 13", says = "Returns how often an issue was claimed.")
    static void promise13HowOftenClaimed() {
        IssueDesk desk = Stories.after(Stories::busy);
        int[] due = {2, 0, 0, 0, 0, 0, 0, 0, 0, 0, 0, 0, 0, 0};
        for (int issue = 0; issue < due.length; issue++) {
            Check.same("claimsOf(" + issue + ")", desk.claimsOf(issue), due[issue]);
        }
        desk.checkIn(0, 0);
        Check.same("it stays when the issue has come", desk.claimsOf(0), 2);
        IssueDesk other = Stories.after(Stories::busy);
        other.skip(0);
        Check.same("it stays when the issue is skipped", other.claimsOf(0), 2);
    }

    @Sentence(in = "Promise 13", says = "`issue`: an issue that is foretold")
    static void promise13AForetoldIssue() {
        Check.same("the first one", new IssueDesk().claimsOf(0), 0);
        Check.same("the last foretold one", Stories.after(Stories::busy).claimsOf(13), 0);
        IssueDesk desk = new IssueDesk();
        desk.setPattern(1, 12, true, 0);
        desk.advance(207);
        desk.round();
        Check.same("the last one", desk.claimsOf(199), 1);
    }

    @Sentence(in = "Promise 13", says = "Returns 0 to 3.")
    static void promise13Never4() {
        IssueDesk desk = new IssueDesk();
        desk.setPattern(90, 12, true, 0);
        desk.setClaims(0, 1);
        int[] due = {0, 1, 2, 3, 3, 3, 3};
        for (int rounds = 0; rounds < due.length; rounds++) {
            Check.same("after " + rounds + " rounds", desk.claimsOf(0), due[rounds]);
            desk.advance(1);
            desk.round();
        }
    }

    @Sentence(in = "Promise 13", says = "Throws `IndexOutOfBoundsException` if it is not foretold")
    static void promise13NotForetold() {
        refusedIfNotForetold("claimsOf", IssueDesk::claimsOf);
    }

    // ---- Promise 14

    @Sentence(in = "Promise 14", says = "Returns volume and number of an issue.")
    static void promise14VolumeAndNumber() {
        IssueDesk desk = new IssueDesk();
        for (int issue = 0; issue < 200; issue++) {
            Check.same("labelOf(" + issue + ")", desk.labelOf(issue), 1000 * (issue / 12 + 1) + issue % 12 + 1);
        }
        Check.same("no issue is foretold by that", desk.foretold(), 1);
    }

    @Sentence(in = "Promise 14", says = "`issue`: 0 to 199")
    static void promise14Issue0To199() {
        IssueDesk desk = new IssueDesk();
        Check.same("the first one", desk.labelOf(0), 1001);
        Check.same("one that is not foretold", desk.labelOf(1), 1002);
        Check.same("the last but one", desk.labelOf(198), 17007);
        Check.same("the last one", desk.labelOf(199), 17008);
    }

    @Sentence(in = "Promise 14", says = "Returns 1000 times the volume, and the number, added.")
    static void promise14TheLargestOnes() {
        IssueDesk desk = new IssueDesk();
        desk.setPattern(30, 1, true, 0);
        Check.same("the largest volume, the least number", desk.labelOf(199), 200001);
        desk.setPattern(30, 1, false, 0);
        Check.same("the largest volume and number", desk.labelOf(199), 200200);
        desk.setPattern(30, 20, false, 0);
        Check.same("the largest number and size", desk.labelOf(199), 10200);
        Check.same("the least ones", desk.labelOf(0), 1001);
    }

    @Sentence(in = "Promise 14", says = "Throws `IndexOutOfBoundsException` if there is no such issue")
    static void promise14NoSuchIssue() {
        for (int issue : new int[] {-200, -1, 200, 201}) {
            refused("labelOf", IssueDesk::labelOf, issue, Stories::busy);
            refused("labelOf", IssueDesk::labelOf, issue, Stories::allForetold);
        }
        for (int issue : Check.FAR) {
            refused("labelOf", IssueDesk::labelOf, issue, Stories::busy);
        }
    }

    // ---- Promise 15

    @Sentence(in = "Promise 15", says = "Returns the issue with a volume and a number.")
    static void promise15TheIssueWithBoth() {
        for (int size : new int[] {1, 7, 20}) {
            IssueDesk anew = new IssueDesk();
            anew.setPattern(30, size, true, 0);
            IssueDesk goingOn = new IssueDesk();
            goingOn.setPattern(30, size, false, 0);
            for (int issue = 0; issue < 200; issue++) {
                Check.same("anew", anew.find(issue / size + 1, issue % size + 1), issue);
                Check.same("going on", goingOn.find(issue / size + 1, issue + 1), issue);
            }
        }
    }

    @Sentence(in = "Promise 15", says = "`volume`: any number")
    static void promise15AnyVolume() {
        IssueDesk desk = new IssueDesk();
        Check.same("the first volume", desk.find(1, 1), 0);
        Check.same("the last volume", desk.find(17, 1), 192);
        for (int volume : new int[] {-17, -1, 0, 18, 200}) {
            Check.same("find(" + volume + ", 1)", desk.find(volume, 1), IssueDesk.NONE);
        }
        for (int volume : Check.FAR) {
            Check.same("find(" + volume + ", 1)", desk.find(volume, 1), IssueDesk.NONE);
        }
        // 12 times the first, and 1000 times the second, would wrap around to those of volume 1
        Check.same("2 to the 30 volumes more", desk.find(1 + (1 << 30), 1), IssueDesk.NONE);
        Check.same("2 to the 29 volumes more", desk.find(1 + (1 << 29), 1), IssueDesk.NONE);
        Check.same("the label's sum is no answer", desk.find(0, 1001), IssueDesk.NONE);
        Check.same("the label's sum is no answer", desk.find(3, -999), IssueDesk.NONE);
    }

    @Sentence(in = "Promise 15", says = "`number`: any number")
    static void promise15AnyNumber() {
        IssueDesk desk = new IssueDesk();
        Check.same("the last number", desk.find(1, 12), 11);
        Check.same("the number behind the size", desk.find(1, 13), IssueDesk.NONE);
        Check.same("the number 0", desk.find(2, 0), IssueDesk.NONE);
        Check.same("the last one", desk.find(17, 8), 199);
        Check.same("the number behind the last one", desk.find(17, 9), IssueDesk.NONE);
        for (int number : Check.FAR) {
            Check.same("find(1, " + number + ")", desk.find(1, number), IssueDesk.NONE);
            Check.same("find(" + number + ", " + number + ")", desk.find(number, number), IssueDesk.NONE);
        }
        desk.setPattern(30, 12, false, 0);
        Check.same("going on: the last of volume 1", desk.find(1, 12), 11);
        Check.same("going on: volume 1 has no 13", desk.find(1, 13), IssueDesk.NONE);
        Check.same("going on: the first of volume 2", desk.find(2, 13), 12);
        Check.same("going on: volume 2 has no 12", desk.find(2, 12), IssueDesk.NONE);
        Check.same("going on: volume 2 has no 1", desk.find(2, 1), IssueDesk.NONE);
        Check.same("going on: the last one", desk.find(17, 200), 199);
        Check.same("going on: no 201", desk.find(17, 201), IssueDesk.NONE);
        for (int number : Check.FAR) {
            Check.same("going on: find(1, " + number + ")", desk.find(1, number), IssueDesk.NONE);
        }
    }

    @Sentence(in = "Promise 15", says = "Returns the issue, 0 to 199; NONE if there is none.")
    static void promise15OneOf200OrNone() {
        IssueDesk desk = new IssueDesk();
        Check.same("the first one", desk.find(1, 1), 0);
        Check.same("one that is not foretold", desk.find(1, 2), 1);
        desk.setPattern(30, 1, true, 0);
        Check.same("the last one", desk.find(200, 1), 199);
        Check.same("the one behind it", desk.find(201, 1), IssueDesk.NONE);
        Check.same("the one before the first", desk.find(0, 1), IssueDesk.NONE);
        Check.same("no issue is foretold by that", desk.foretold(), 1);
    }

    // ---- Promise 16

    @Sentence(in = "Promise 16", says = "Returns how many issues are late today.")
    static void promise16HowManyAreLate() {
        IssueDesk desk = new IssueDesk();
        Check.same("at first", desk.late(), 0);
        desk.setPattern(1, 12, true, 0);
        desk.advance(206);
        Check.same("all but one", desk.late(), 199);
        desk.advance(1);
        Check.same("all", desk.late(), 200);
        desk.round();
        Check.same("claimed ones too", desk.late(), 200);
        desk.checkIn(0, 5);
        Check.same("not those that came", desk.late(), 194);
        desk.skip(199);
        Check.same("nor skipped ones", desk.late(), 193);
        desk.setClaims(100, 1);
        Check.same("by the grace as it is now", desk.late(), 101);
        desk.setClaims(0, 1);
        Check.same("by the grace as it is now", desk.late(), 193);
    }
}
