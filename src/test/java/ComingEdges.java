/** The sentences of Terms on states, check-in and shifts. */
final class ComingEdges {
    private ComingEdges() {
    }

    @Sentence(in = "Terms", says = "An issue that is foretold is WAITED for at first;")
    static void waitedForAtFirst() {
        Check.same("at a new object", new IssueDesk().stateOf(0), IssueDesk.WAITED);
        IssueDesk byDays = new IssueDesk();
        byDays.checkIn(0, 0);
        byDays.advance(30);
        Check.same("by days", byDays.stateOf(1), IssueDesk.WAITED);
        byDays.setPattern(1, 12, true, 0);
        byDays.advance(1);
        Check.same("by a pattern", byDays.stateOf(2), IssueDesk.WAITED);
        IssueDesk byCheckIn = new IssueDesk();
        byCheckIn.checkIn(199, 0);
        for (int issue = 0; issue < 199; issue++) {
            Check.same("by a check-in", byCheckIn.stateOf(issue), IssueDesk.WAITED);
            Check.same("never claimed", byCheckIn.claimsOf(issue), 0);
        }
    }

    @Sentence(in = "Terms", says = "then it can be HELD (it has come), BOUND (it has come within another one) "
        + "or SKIPPED (it does not appear).")
    static void eachStateStays() {
        IssueDesk desk = Stories.after(Stories::busy);
        int[][] due = {{0, IssueDesk.WAITED}, {5, IssueDesk.HELD}, {6, IssueDesk.BOUND}, {4, IssueDesk.SKIPPED}};
        for (int[] one : due) {
            Check.same("stateOf(" + one[0] + ")", desk.stateOf(one[0]), one[1]);
        }
        for (int issue = 4; issue <= 6; issue++) {
            int one = issue;
            Refusal.of("checkIn(" + one + ", 0)", Check.BAD_STATE, Stories::busy, any -> any.checkIn(one, 0));
            Refusal.of("skip(" + one + ")", Check.BAD_STATE, Stories::busy, any -> any.skip(one));
        }
        desk.setClaims(0, 1);
        for (int i = 0; i < 5; i++) {
            desk.advance(100);
            desk.round();
        }
        Check.same("waited for too long", desk.stateOf(0), IssueDesk.SKIPPED);
        Check.same("a held one stays", desk.stateOf(5), IssueDesk.HELD);
        Check.same("a bound one stays", desk.stateOf(6), IssueDesk.BOUND);
        Check.same("a skipped one stays", desk.stateOf(4), IssueDesk.SKIPPED);
    }

    @Sentence(in = "Terms", says = "An issue comes today, by itself or with some further ones that are bound with it, "
        + "which are the next ones: it is HELD then, these are BOUND.")
    static void theNextOnesAreBound() {
        for (int first : new int[] {0, 1, 100, 194}) {
            for (int bound = 0; bound <= 5; bound++) {
                IssueDesk desk = Stories.after(any -> any.checkIn(199, 0));
                if (first + bound < 199) {
                    desk.checkIn(first, bound);
                    for (int issue = 0; issue < 199; issue++) {
                        boolean came = issue > first && issue <= first + bound;
                        int due = issue == first ? IssueDesk.HELD : came ? IssueDesk.BOUND : IssueDesk.WAITED;
                        Check.same("stateOf(" + issue + ")", desk.stateOf(issue), due);
                    }
                }
            }
        }
        IssueDesk last = new IssueDesk();
        last.checkIn(194, 5);
        Check.same("stateOf(194)", last.stateOf(194), IssueDesk.HELD);
        Check.same("stateOf(199)", last.stateOf(199), IssueDesk.BOUND);
    }

    @Sentence(in = "Terms", says = "If some of these are not foretold yet, they are foretold by that, "
        + "with all lower ones, by rising numbers.")
    static void notYetForetoldOnes() {
        // {issue, bound, foretold then}, where 0 to 2 are foretold at first
        int[][] due = {{1, 1, 3}, {2, 0, 3}, {2, 1, 4}, {2, 5, 8}, {3, 0, 4}, {3, 5, 9}, {4, 0, 5}, {10, 2, 13},
            {199, 0, 200}, {194, 5, 200}};
        for (int[] one : due) {
            IssueDesk desk = new IssueDesk();
            desk.advance(60);
            Check.same("checkIn(" + one[0] + ", " + one[1] + ")", desk.checkIn(one[0], one[1]), one[2]);
            Check.same("foretold", desk.foretold(), one[2]);
            for (int issue = 0; issue < one[2]; issue++) {
                int state = issue < one[0] ? IssueDesk.WAITED : issue == one[0] ? IssueDesk.HELD : IssueDesk.BOUND;
                Check.same("stateOf(" + issue + ")", desk.stateOf(issue), state);
                Check.same("dayOf(" + issue + ")", desk.dayOf(issue), 30 * issue);
            }
            Check.fails("dayOf(" + one[2] + ")", Check.NO_INDEX, () -> desk.dayOf(one[2]));
        }
        IssueDesk rising = Stories.after(any -> Stories.early(any, 6));
        rising.checkIn(24, 1);
        int[] days = {636, 666, 696, 726, 756};
        for (int i = 0; i < days.length; i++) {
            Check.same("the lowest one has the shift", rising.dayOf(21 + i), days[i]);
        }
    }

    @Sentence(in = "Terms", says = "The difference of a check-in is today less the day of the issue that came "
        + "(not of those that are bound with it).")
    static void theDifferenceIsThatOfTheIssueThatCame() {
        IssueDesk bound = Stories.after(Stories::allForetold);
        for (int issue : new int[] {0, 3, 9}) {
            Stories.comeAt(bound, issue, issue == 3 ? 5 : 2, 4);
        }
        Check.same("with bound ones", bound.shift(), 4);
        IssueDesk byBound = Stories.after(Stories::allForetold);
        // the last of those that are bound is 4 days early each time, the issue itself is 6, 16 and 6 days late
        byBound.advance(6);
        byBound.checkIn(0, 1);
        byBound.advance(30);
        byBound.checkIn(2, 2);
        byBound.advance(20);
        byBound.checkIn(5, 1);
        Check.same("not by the bound ones", byBound.shift(), 0);
        IssueDesk early = new IssueDesk();
        for (int issue = 1; issue < 4; issue++) {
            early.advance(issue == 1 ? 20 : 30);
            Check.same("foretold by the check-in", early.checkIn(issue, 0), issue + 1);
        }
        Check.same("by the day that the check-in foretold", early.shift(), -10);
    }

    /** The shift when the issues 0, 5 and 6 come 4 days late each, and this story is told behind 0. */
    private static int shiftWith(Stories.Story between) {
        IssueDesk desk = Stories.after(Stories::allForetold);
        Stories.comeAt(desk, 0, 0, 4);
        between.tell(desk);
        Stories.comeAt(desk, 5, 0, 4);
        Stories.comeAt(desk, 6, 0, 4);
        return desk.shift();
    }

    private static void skipAll(IssueDesk desk, int first, int last) {
        for (int issue = first; issue <= last; issue++) {
            desk.skip(issue);
        }
    }

    @Sentence(in = "Terms", says = "all issues between both are BOUND or SKIPPED.")
    static void issuesBetweenAreBoundOrSkipped() {
        Check.same("all skipped", shiftWith(any -> skipAll(any, 1, 4)), 4);
        Check.same("the first waited for", shiftWith(any -> skipAll(any, 2, 4)), 0);
        Check.same("the last waited for", shiftWith(any -> skipAll(any, 1, 3)), 0);
        Check.same("one within waited for", shiftWith(any -> { any.skip(1); skipAll(any, 3, 4); }), 0);
        Check.same("all waited for", shiftWith(any -> { }), 0);
        IssueDesk bound = Stories.after(Stories::allForetold);
        Stories.comeAt(bound, 0, 3, 4);
        skipAll(bound, 4, 5);
        Stories.comeAt(bound, 6, 0, 4);
        Stories.comeAt(bound, 7, 0, 4);
        Check.same("bound and skipped ones", bound.shift(), 4);
        IssueDesk none = Stories.after(Stories::allForetold);
        for (int issue = 0; issue < 3; issue++) {
            Stories.comeAt(none, issue, 0, 4);
        }
        Check.same("none between", none.shift(), 4);
        heldBetween();
        skippedByARoundBetween();
    }

    private static void heldBetween() {
        IssueDesk desk = Stories.after(Stories::allForetold);
        Stories.comeAt(desk, 1, 0, 2);
        Stories.comeAt(desk, 0, 0, 12);
        Stories.comeAt(desk, 2, 0, 12);
        Stories.comeAt(desk, 3, 0, 12);
        Check.same("1 is held between 0 and 2", desk.shift(), 0);
        Stories.comeAt(desk, 4, 0, 12);
        Check.same("2, 3, 4", desk.shift(), 12);
    }

    private static void skippedByARoundBetween() {
        IssueDesk desk = Stories.after(Stories::allForetold);
        desk.setClaims(0, 1);
        Stories.comeAt(desk, 0, 0, 14);
        // 1 is late at the days 14, 15 and 16, when it is claimed, and at 17; 2 comes at 34, 3 at 44
        for (int day = 14; day <= 17; day++) {
            desk.round();
            desk.advance(1);
        }
        Check.same("stateOf(1)", desk.stateOf(1), IssueDesk.SKIPPED);
        Stories.comeAt(desk, 2, 0, 14);
        Stories.comeAt(desk, 3, 0, 14);
        Check.same("skipped by a round", desk.shift(), 14);
    }

    @Sentence(in = "Terms", says = "A check-in follows the one before if, as things are when it is made,")
    static void asThingsAreWhenItIsMade() {
        IssueDesk later = Stories.after(Stories::allForetold);
        Stories.comeAt(later, 0, 0, 4);
        Stories.comeAt(later, 2, 0, 4);
        later.skip(1);
        Stories.comeAt(later, 3, 0, 4);
        Check.same("1 was waited for when 2 came", later.shift(), 0);
        Stories.comeAt(later, 4, 0, 4);
        Check.same("2, 3, 4", later.shift(), 4);
        IssueDesk before = Stories.after(Stories::allForetold);
        Stories.comeAt(before, 0, 0, 4);
        before.advance(19);
        before.skip(1);
        Stories.comeAt(before, 2, 0, 4);
        Stories.comeAt(before, 3, 0, 4);
        Check.same("1 was skipped when 2 came", before.shift(), 4);
        IssueDesk filled = Stories.after(Stories::allForetold);
        Stories.comeAt(filled, 0, 0, 4);
        Stories.comeAt(filled, 2, 0, 4);
        Stories.comeAt(filled, 3, 0, 4);
        filled.skip(1);
        Check.same("a skip makes no shift", filled.shift(), 0);
    }

    @Sentence(in = "Terms", says = "its issue is higher")
    static void aLowerIssueDoesNotFollow() {
        IssueDesk desk = Stories.after(Stories::allForetold);
        desk.advance(35);
        desk.checkIn(3, 0);
        desk.checkIn(2, 0);
        desk.advance(10);
        desk.checkIn(4, 0);
        desk.advance(10);
        desk.checkIn(5, 0);
        Check.same("3, 2, 4, 5 with 5, 15, 5, 5", desk.shift(), 0);
        desk.advance(10);
        desk.checkIn(6, 0);
        Check.same("4, 5, 6", desk.shift(), 5);
    }

    @Sentence(in = "Terms", says = "If three check-ins, the second and the third of which follow the one before, "
        + "have the same difference, which is not 0 and from -15 to 15, it is added to the shift that waits;")
    static void threeWithTheSameDifference() {
        for (int difference = -18; difference <= 18; difference++) {
            IssueDesk desk = Stories.after(Stories::allForetold);
            desk.advance(20);
            Stories.comeAt(desk, 4, 0, difference);
            Stories.comeAt(desk, 5, 0, difference);
            Check.same("two with " + difference, desk.shift(), 0);
            Stories.comeAt(desk, 6, 0, difference);
            boolean counts = difference >= -15 && difference <= 15;
            Check.same("three with " + difference, desk.shift(), counts ? difference : 0);
        }
        shiftOf(new int[] {0, 1, 2}, new int[] {4, 4, 5}, 0);
        shiftOf(new int[] {0, 1, 2}, new int[] {4, 5, 5}, 0);
        shiftOf(new int[] {0, 1, 2}, new int[] {5, 4, 5}, 0);
        shiftOf(new int[] {1, 2, 3}, new int[] {-4, 4, 4}, 0);
        shiftOf(new int[] {0, 1, 2, 3}, new int[] {5, 4, 4, 4}, 4);
        shiftOf(new int[] {0, 1, 2, 3, 4}, new int[] {4, 4, 5, 4, 4}, 0);
        // the second one doesn't follow, the third one doesn't, the first one need not
        shiftOf(new int[] {0, 2, 3}, new int[] {4, 4, 4}, 0);
        shiftOf(new int[] {0, 1, 3}, new int[] {4, 4, 4}, 0);
        shiftOf(new int[] {0, 2, 3, 4}, new int[] {4, 4, 4, 4}, 4);
        shiftOf(new int[] {0, 1, 3, 4, 5}, new int[] {4, 4, 4, 4, 4}, 4);
        // what came before is far out of range, 0, or just out of range
        shiftOf(new int[] {0, 1, 2, 3, 4, 5, 6}, new int[] {0, 0, 0, 0, 1, 1, 1}, 1);
        shiftOf(new int[] {0, 1, 2, 3, 4, 5, 6, 7}, new int[] {16, 16, 16, 16, 15, 15, 15, 16}, 15);
        shiftOf(new int[] {2, 3, 4, 5, 6, 7}, new int[] {7, 7, 7, -2, -2, -2}, 5);
        otherCallsBetween();
    }

    /** Behind the busy story, whose last two check-ins have the difference 4, another call, and then the third. */
    private static void otherCallsBetween() {
        Stories.Story[] others = {
            desk -> { }, desk -> desk.setPattern(1, 1, true, 0), desk -> desk.setClaims(0, 1),
            desk -> desk.advance(1), desk -> desk.skip(0), desk -> desk.skip(9), IssueDesk::round,
            desk -> desk.give(0, 199), IssueDesk::late, desk -> desk.find(1, 1),
        };
        for (int i = 0; i < others.length; i++) {
            IssueDesk desk = Stories.after(Stories::busy);
            others[i].tell(desk);
            Stories.comeAt(desk, 8, 0, 4);
            Check.same("the third one behind another call, " + i, desk.shift(), 8);
        }
    }

    private static void shiftOf(int[] issues, int[] differences, int due) {
        IssueDesk desk = Stories.after(Stories::allForetold);
        for (int i = 0; i < issues.length; i++) {
            Stories.comeAt(desk, issues[i], 0, differences[i]);
        }
        StringBuilder text = new StringBuilder();
        for (int i = 0; i < issues.length; i++) {
            text.append(issues[i]).append(" with ").append(differences[i]).append(", ");
        }
        Check.same(text + "the shift", desk.shift(), due);
    }

    @Sentence(in = "Terms", says = "check-ins up to then do not count for a further one.")
    static void checkInsUpToThenDoNotCountAgain() {
        int[] due = {0, 0, 4, 4, 4, 8, 8, 8, 12};
        IssueDesk desk = Stories.after(Stories::allForetold);
        for (int issue = 0; issue < due.length; issue++) {
            Stories.comeAt(desk, issue, 0, 4);
            Check.same("behind the issue " + issue, desk.shift(), due[issue]);
        }
        shiftOf(new int[] {0, 1, 2, 3, 4, 5, 6, 7}, new int[] {4, 4, 4, 5, 4, 4, 5, 5}, 4);
        shiftOf(new int[] {0, 1, 2, 5, 6, 7}, new int[] {4, 4, 4, 4, 4, 4}, 8);
        shiftOf(new int[] {0, 1, 2, 3, 4, 6, 7}, new int[] {4, 4, 4, 4, 4, 4, 4}, 4);
        // a shift that was used up meanwhile changes nothing in it
        IssueDesk used = new IssueDesk();
        used.advance(4);
        int[] days = {4, 34, 64, 98, 128, 158};
        int[] shifts = {0, 0, 4, 0, 0, 4};
        for (int issue = 0; issue < days.length; issue++) {
            Stories.advanceTo(used, days[issue]);
            used.checkIn(issue, 0);
            Check.same("gap 30, behind the issue " + issue, used.shift(), shifts[issue]);
        }
    }
}
