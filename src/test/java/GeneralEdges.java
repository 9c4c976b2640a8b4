/** The sentences on every call: how many there are, what a refused one does, days and months, the constants. */
final class GeneralEdges {
    private GeneralEdges() {
    }

    @Sentence(in = "What it is", says = "An object is used for at most 512 calls after it has been made")
    static void the512thCallStillAnswers() {
        IssueDesk desk = new IssueDesk();
        desk.setPattern(1, 12, true, 0);
        for (int day = 1; day <= 200; day++) {
            Check.same("advance", desk.advance(1), day);
        }
        for (int issue = 0; issue < 200; issue += 2) {
            Check.same("checkIn", desk.checkIn(issue, 1), 200);
        }
        for (int issue = 0; issue < 200; issue++) {
            Check.same("stateOf", desk.stateOf(issue), issue % 2 == 0 ? IssueDesk.HELD : IssueDesk.BOUND);
        }
        for (int call = 502; call < 512; call++) {
            Check.fails("call " + call, Check.NO_INDEX, () -> desk.rangeAt(1));
        }
        Check.same("the 512th call", desk.rangeAt(0), 199);
    }

    @Sentence(in = "Terms", says = "Ranges that are opened give exactly the issues that are held")
    static void openedRangesAreWhatIsHeld() {
        openRanges(new IssueDesk());
        openRanges(Stories.after(Stories::busy));
        IssueDesk ends = new IssueDesk();
        ends.checkIn(194, 5);
        ends.checkIn(0, 0);
        ends.skip(1);
        openRanges(ends);
    }

    private static void openRanges(IssueDesk desk) {
        boolean[] opened = new boolean[200];
        int ranges = desk.ranges();
        for (int k = 0; k < ranges; k++) {
            int range = desk.rangeAt(k);
            for (int issue = range / 1000; issue <= range % 1000; issue++) {
                opened[issue] = true;
            }
        }
        int foretold = desk.foretold();
        for (int issue = 0; issue < 200; issue++) {
            int state = issue < foretold ? desk.stateOf(issue) : IssueDesk.WAITED;
            boolean held = state == IssueDesk.HELD || state == IssueDesk.BOUND;
            Check.same("opened " + issue, opened[issue], held);
            Check.same("isHeld " + issue, desk.isHeld(issue), held);
        }
    }

    @Sentence(in = "Terms", says = "no issue is claimed that was bound, skipped or has come.")
    static void whatIsNotWaitedForIsNotClaimed() {
        IssueDesk desk = new IssueDesk();
        desk.setClaims(0, 1);
        desk.advance(120);
        desk.checkIn(0, 1);
        desk.skip(2);
        for (int round = 1; round <= 3; round++) {
            desk.advance(1);
            Check.same("only the issues 3 and 4 are claimed", desk.round(), 2);
        }
        for (int issue = 0; issue < 3; issue++) {
            Check.same("claimsOf(" + issue + ")", desk.claimsOf(issue), 0);
        }
        Check.same("a held one stays", desk.stateOf(0), IssueDesk.HELD);
        Check.same("a bound one stays", desk.stateOf(1), IssueDesk.BOUND);
        desk.checkIn(3, 1);
        desk.advance(1);
        Check.same("claimed ones came", desk.round(), 0);
        Check.same("and are not skipped", desk.stateOf(3), IssueDesk.HELD);
        Check.same("and are not skipped", desk.stateOf(4), IssueDesk.BOUND);
        Check.same("claimsOf(3) stays", desk.claimsOf(3), 3);
    }

    @Sentence(in = "Terms", says = "A call that throws an exception changes nothing;")
    static void aHistoryWithRefusedCallsEndsLikeOneWithout() {
        Refusal.sameBehind("refused calls", desk -> history(desk, true), desk -> history(desk, false));
    }

    /** Behind each step, if wanted, another refused call. */
    private static void history(IssueDesk desk, boolean withRefused) {
        Stories.Story[] steps = {
            any -> any.setClaims(3, 5), any -> any.setPattern(20, 5, false, 4), any -> any.give(2, 9),
            any -> any.checkIn(12, 1), any -> any.advance(24), any -> any.checkIn(1, 0), any -> any.advance(20),
            any -> any.checkIn(2, 0), any -> any.advance(50), any -> any.checkIn(3, 0), any -> any.skip(4),
            IssueDesk::round, any -> any.advance(40), any -> any.checkIn(5, 1), any -> any.advance(40),
            any -> any.checkIn(7, 0), IssueDesk::round,
        };
        Stories.Story[] refused = {
            any -> any.setPattern(10, 3, true, 4095), any -> any.setPattern(10, 0, true, 8),
            any -> any.setPattern(91, 3, true, 8), any -> any.setClaims(9, 101), any -> any.setClaims(-1, 9),
            any -> any.give(50, 200), any -> any.give(60, 59), any -> any.advance(401), any -> any.advance(0),
            any -> any.checkIn(195, 5), any -> any.checkIn(8, 6), any -> any.checkIn(200, 0),
            any -> any.checkIn(11, 5), any -> any.checkIn(10, 2), any -> any.skip(12), any -> any.skip(14),
            any -> any.only(true, -1), any -> any.rangeAt(-1), any -> any.dayOf(14), any -> any.labelOf(200),
        };
        for (int step = 0; step < steps.length; step++) {
            steps[step].tell(desk);
            for (int i = 0; withRefused && i < 3; i++) {
                Stories.Story one = refused[(3 * step + i) % refused.length];
                Check.same("it is refused", Check.outcome(() -> { one.tell(desk); return 0; }) != 0, true);
            }
        }
    }

    @Sentence(in = "Not promised",
        says = "Nothing is promised beyond the answers and state changes described above")
    static void callsThatAskChangeNothing() {
        Stories.Story[] askings = {
            IssueDesk::day, IssueDesk::foretold, IssueDesk::shift, any -> any.dayOf(13), any -> any.stateOf(0),
            any -> any.claimsOf(0), any -> any.labelOf(199), any -> any.find(40, 200), any -> any.find(7, 1),
            IssueDesk::late, IssueDesk::ranges, any -> any.rangeAt(2), any -> any.isHeld(12),
            any -> any.isHeld(-1), any -> any.only(true, 0), any -> any.only(false, 199),
        };
        for (int i = 0; i < askings.length; i++) {
            Stories.Story asking = askings[i];
            Refusal.sameBehind("asking " + i + " changes nothing", desk -> {
                Stories.busy(desk);
                asking.tell(desk);
                asking.tell(desk);
            }, Stories::busy);
        }
    }

    @Sentence(in = "Terms",
        says = "if several exceptions apply, the one that its @throws lines name first is thrown.")
    static void theFirstNamedExceptionIsThrown() {
        int[][] noIssue = {{-1, -1}, {-1, 6}, {-1, 1}, {-1, 5}, {200, -1}, {200, 6}, {200, 0},
            {Integer.MAX_VALUE, Integer.MAX_VALUE}, {Integer.MIN_VALUE, Integer.MIN_VALUE}};
        int[][] badBound = {{12, -1}, {12, 6}, {13, 6}, {4, -1}, {11, 6}, {199, 1}, {195, 5},
            {12, Integer.MAX_VALUE}, {12, Integer.MIN_VALUE}};
        Stories.Story story = desk -> {
            Stories.busy(desk);
            desk.checkIn(0, 0);
            desk.checkIn(197, 2);
        };
        for (int[] one : noIssue) {
            Refusal.of("checkIn(" + one[0] + ", " + one[1] + "), no such issue", Check.NO_INDEX, story,
                desk -> desk.checkIn(one[0], one[1]));
        }
        for (int[] one : badBound) {
            Refusal.of("checkIn(" + one[0] + ", " + one[1] + "), bound and a state", Check.BAD_ARGUMENT, story,
                desk -> desk.checkIn(one[0], one[1]));
        }
        for (int days : new int[] {401, 402, Integer.MAX_VALUE}) {
            Refusal.of("advance(" + days + "), out of range and above 7200", Check.BAD_ARGUMENT,
                Stories::nearTheEnd, desk -> desk.advance(days));
        }
    }

    @Sentence(in = "Terms", says = "Days are numbered from 0; a month has 30 days, a year 12 months, numbered 0 to 11: "
        + "the month of a day is the day divided by 30, rounded down, modulo 12.")
    static void eachMonthHas30DaysAndComesAgainEachYear() {
        Check.same("the first day", new IssueDesk().day(), 0);
        for (int month = 0; month < 36; month++) {
            int first = 30 * month;
            int set = 1 << month % 12;
            if (first > 1) {
                Check.same("the day before month " + month, dayGiven(first - 1, set), first - 1);
            }
            if (first > 0) {
                Check.same("the first day of month " + month, dayGiven(first, set), first + 30);
            }
            Check.same("the second day of month " + month, dayGiven(first + 1, set), first + 30);
            Check.same("the last day of month " + month, dayGiven(first + 29, set), first + 30);
            Check.same("the day behind month " + month, dayGiven(first + 30, set), first + 30);
        }
    }

    /** The day that an issue gets which falls on the wanted one, 1 or above, when these months are skipped. */
    private static int dayGiven(int wanted, int skipped) {
        IssueDesk desk = new IssueDesk();
        int issue = 0;
        while (desk.dayOf(issue) < wanted - 1) {
            desk.setPattern(Math.min(90, wanted - 1 - desk.dayOf(issue)), 12, true, 0);
            issue++;
            desk.checkIn(issue, 0);
        }
        desk.setPattern(1, 12, true, skipped);
        desk.checkIn(issue + 1, 0);
        return desk.dayOf(issue + 1);
    }

    @Sentence(in = "Terms", says = "The constants: `NONE = -1`: None.")
    static void noneIsMinusOne() {
        IssueDesk desk = new IssueDesk();
        Check.same("NONE", IssueDesk.NONE, -1);
        Check.same("find", desk.find(0, 0), -1);
        Check.same("only", desk.only(true, 0), -1);
    }

    @Sentence(in = "Terms", says = "`WAITED = 0, HELD = 1, BOUND = 2, SKIPPED = 3`: States of issues.")
    static void statesAre0To3() {
        Check.same("WAITED", IssueDesk.WAITED, 0);
        Check.same("HELD", IssueDesk.HELD, 1);
        Check.same("BOUND", IssueDesk.BOUND, 2);
        Check.same("SKIPPED", IssueDesk.SKIPPED, 3);
        IssueDesk desk = Stories.after(Stories::busy);
        Check.same("waited for", desk.stateOf(0), 0);
        Check.same("held", desk.stateOf(5), 1);
        Check.same("bound", desk.stateOf(6), 2);
        Check.same("skipped", desk.stateOf(4), 3);
    }
}
