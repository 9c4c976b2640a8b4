/** The sentences of the promises 1 (a new object), 2 (setPattern), 3 (setClaims) and 4 (advance). */
final class Promise01To04Edges {
    private Promise01To04Edges() {
    }

    // ---- Promise 1

    @Sentence(in = "Promise 1", says = "The day 0, at which the issue 0 is WAITED for;")
    static void promise1TheDay0() {
        IssueDesk desk = new IssueDesk();
        Check.same("day", desk.day(), 0);
        Check.same("foretold", desk.foretold(), 1);
        Check.same("dayOf(0)", desk.dayOf(0), 0);
        Check.same("stateOf(0)", desk.stateOf(0), IssueDesk.WAITED);
        Check.same("claimsOf(0)", desk.claimsOf(0), 0);
        Check.same("shift", desk.shift(), 0);
        Check.same("late", desk.late(), 0);
        Check.same("ranges", desk.ranges(), 0);
        Check.same("here", desk.only(true, 0), IssueDesk.NONE);
    }

    @Sentence(in = "Promise 1",
        says = "the gap is 30, the size 12, numbers begin anew, no month is skipped;")
    static void promise1ThePatternAtFirst() {
        IssueDesk desk = new IssueDesk();
        Check.same("the last of volume 1", desk.labelOf(11), 1012);
        Check.same("the first of volume 2", desk.labelOf(12), 2001);
        desk.advance(29);
        Check.same("at the day 29", desk.foretold(), 1);
        desk.advance(1);
        Check.same("at the day 30", desk.foretold(), 2);
        desk.checkIn(25, 0);
        for (int issue = 0; issue <= 25; issue++) {
            Check.same("dayOf(" + issue + ")", desk.dayOf(issue), 30 * issue);
        }
    }

    @Sentence(in = "Promise 1", says = "the other house has nothing.")
    static void promise1TheOtherHouse() {
        IssueDesk desk = new IssueDesk();
        Check.same("only there", desk.only(false, 0), IssueDesk.NONE);
        Check.same("a first one given", desk.give(199, 199), 1);
        IssueDesk another = new IssueDesk();
        Check.same("another desk's house", another.only(false, 0), IssueDesk.NONE);
        Check.same("another desk's house", another.give(0, 0), 1);
    }

    // ---- Promise 2

    @Sentence(in = "Promise 2",
        says = "Changes the pattern, for issues that are not foretold yet, and the levels of all.")
    static void promise2IssuesNotForetoldYetAndAllLevels() {
        IssueDesk desk = new IssueDesk();
        desk.advance(60);
        desk.setPattern(7, 2, true, 0b1000);
        Check.same("the last foretold one's day stays", desk.dayOf(2), 60);
        Check.same("foretold", desk.foretold(), 3);
        desk.checkIn(8, 0);
        int[] days = {0, 30, 60, 67, 74, 81, 88, 120, 127};
        int[] labels = {1001, 1002, 2001, 2002, 3001, 3002, 4001, 4002, 5001};
        for (int issue = 0; issue < days.length; issue++) {
            Check.same("dayOf(" + issue + ")", desk.dayOf(issue), days[issue]);
            Check.same("labelOf(" + issue + ")", desk.labelOf(issue), labels[issue]);
        }
        IssueDesk busy = Stories.after(Stories::busy);
        busy.setPattern(90, 20, true, 0);
        Check.same("the shift stays", busy.shift(), 4);
        Check.same("a state stays", busy.stateOf(6), IssueDesk.BOUND);
        Check.same("claims stay", busy.claimsOf(0), 2);
    }

    private static void refusedPattern(int gap, int size, int skipped) {
        for (boolean beginAnew : new boolean[] {true, false}) {
            Refusal.of("setPattern(" + gap + ", " + size + ", " + beginAnew + ", " + skipped + ")",
                Check.BAD_ARGUMENT, Stories::busy, desk -> desk.setPattern(gap, size, beginAnew, skipped));
        }
    }

    @Sentence(in = "Promise 2", says = "`gap`: 1 to 90")
    static void promise2Gap1To90() {
        for (int gap : new int[] {1, 2, 89, 90}) {
            IssueDesk desk = new IssueDesk();
            desk.setPattern(gap, 12, true, 0);
            desk.checkIn(2, 0);
            Check.same("a gap of " + gap, desk.dayOf(1), gap);
            Check.same("a gap of " + gap, desk.dayOf(2), 2 * gap);
        }
        for (int gap : new int[] {-90, -1, 0, 91, 92}) {
            refusedPattern(gap, 12, 0);
        }
        for (int gap : Check.FAR) {
            refusedPattern(gap, 12, 0);
        }
    }

    @Sentence(in = "Promise 2", says = "`size`: 1 to 20")
    static void promise2Size1To20() {
        int[][] due = {{1, 200001}, {2, 100002}, {19, 11010}, {20, 10020}};
        for (int[] one : due) {
            IssueDesk desk = new IssueDesk();
            desk.setPattern(30, one[0], true, 0);
            Check.same("a size of " + one[0], desk.labelOf(199), one[1]);
        }
        for (int size : new int[] {-20, -1, 0, 21, 22}) {
            refusedPattern(30, size, 0);
        }
        for (int size : Check.FAR) {
            refusedPattern(30, size, 0);
        }
    }

    @Sentence(in = "Promise 2", says = "`beginAnew`: whether numbers begin anew")
    static void promise2BeginAnew() {
        IssueDesk desk = new IssueDesk();
        desk.setPattern(30, 12, false, 0);
        Check.same("going on", desk.labelOf(12), 2013);
        desk.setPattern(30, 12, true, 0);
        Check.same("anew", desk.labelOf(12), 2001);
        desk.setPattern(30, 12, true, 0);
        Check.same("and again anew", desk.labelOf(12), 2001);
    }

    @Sentence(in = "Promise 2", says = "`skipped`: the skipped months, as a set: 0 to 4094, the bit m for the month m, "
        + "at least one month not skipped")
    static void promise2Skipped0To4094() {
        Check.same("no month", daysOf1And2(0), 30060);
        Check.same("month 1", daysOf1And2(2), 60090);
        Check.same("month 11 alone is not", daysOf1And2(2047), 330690);
        Check.same("month 10 alone is not", daysOf1And2(4095 - 1024), 300660);
        Check.same("month 0 alone is not", daysOf1And2(4094), 360720);
        Check.same("month 0", daysOf1And2(1), 30060);
        for (int month = 0; month < 12; month++) {
            IssueDesk desk = new IssueDesk();
            desk.setPattern(30, 12, true, 1 << month);
            desk.checkIn(22, 0);
            int day = 0;
            for (int issue = 1; issue <= 22; issue++) {
                day += day / 30 % 12 == (month + 11) % 12 ? 60 : 30;
                Check.same("month " + month + ", dayOf(" + issue + ")", desk.dayOf(issue), day);
            }
        }
        for (int skipped : new int[] {-4095, -4094, -2, -1, 4095, 4096, 8190, 1 << 12, 1 << 30, -1 << 12}) {
            refusedPattern(30, 12, skipped);
        }
        for (int skipped : Check.FAR) {
            refusedPattern(30, 12, skipped);
        }
    }

    private static int daysOf1And2(int skipped) {
        IssueDesk desk = new IssueDesk();
        desk.setPattern(30, 12, true, skipped);
        desk.checkIn(2, 0);
        return 1000 * desk.dayOf(1) + desk.dayOf(2);
    }

    @Sentence(in = "Promise 2", says = "Throws `IllegalArgumentException` if an argument is out of range")
    static void promise2OneOfTheArgumentsOrAll() {
        int[][] wrong = {{0, 1, 0}, {1, 0, 0}, {1, 1, -1}, {0, 0, 0}, {1, 0, -1}, {0, 1, -1}, {0, 0, -1},
            {91, 20, 4094}, {90, 21, 4094}, {90, 20, 4095}, {91, 21, 4095}};
        for (int[] one : wrong) {
            refusedPattern(one[0], one[1], one[2]);
        }
        // a pattern that would foretell issues at once, but is refused
        Stories.Story late = desk -> {
            desk.setPattern(90, 12, true, 0);
            desk.advance(89);
        };
        Refusal.of("setPattern(1, 21, true, 0)", Check.BAD_ARGUMENT, late, desk -> desk.setPattern(1, 21, true, 0));
        Refusal.of("setPattern(1, 12, true, 4095)", Check.BAD_ARGUMENT, late,
            desk -> desk.setPattern(1, 12, true, 4095));
    }

    // ---- Promise 3

    private static void refusedClaims(int grace, int pause) {
        Refusal.of("setClaims(" + grace + ", " + pause + ")", Check.BAD_ARGUMENT, Stories::busy,
            desk -> desk.setClaims(grace, pause));
    }

    @Sentence(in = "Promise 3", says = "Sets grace and pause.")
    static void promise3SetsBoth() {
        IssueDesk desk = new IssueDesk();
        desk.setPattern(90, 12, true, 0);
        desk.advance(10);
        desk.setClaims(9, 20);
        Check.same("a grace of 9 at the day 10", desk.late(), 1);
        Check.same("claimed", desk.round(), 1);
        desk.setClaims(10, 20);
        Check.same("a grace of 10 at the day 10", desk.late(), 0);
        desk.setClaims(9, 20);
        desk.advance(10);
        Check.same("a pause of 20, 10 days later", desk.round(), 0);
        desk.setClaims(9, 11);
        Check.same("a pause of 11, 10 days later", desk.round(), 0);
        desk.setClaims(9, 10);
        Check.same("a pause of 10, 10 days later", desk.round(), 1);
    }

    @Sentence(in = "Promise 3", says = "`grace`: 0 to 100")
    static void promise3Grace0To100() {
        for (int grace : new int[] {0, 1, 99, 100}) {
            IssueDesk desk = new IssueDesk();
            desk.setPattern(90, 12, true, 2047);
            desk.setClaims(grace, 30);
            Stories.advanceTo(desk, grace);
            Check.same("a grace of " + grace, desk.late(), 0);
            desk.advance(1);
            Check.same("a grace of " + grace + ", a day later", desk.late(), 1);
        }
        for (int grace : new int[] {-100, -2, -1, 101, 102}) {
            refusedClaims(grace, 30);
        }
        for (int grace : Check.FAR) {
            refusedClaims(grace, 30);
        }
    }

    @Sentence(in = "Promise 3", says = "`pause`: 1 to 100")
    static void promise3Pause1To100() {
        for (int pause : new int[] {1, 2, 99, 100}) {
            IssueDesk desk = new IssueDesk();
            desk.setPattern(90, 12, true, 2047);
            desk.setClaims(0, pause);
            desk.advance(1);
            desk.round();
            Stories.advanceTo(desk, pause);
            Check.same("a pause of " + pause + ", a day too soon", desk.round(), 0);
            desk.advance(1);
            Check.same("a pause of " + pause, desk.round(), 1);
        }
        for (int pause : new int[] {-100, -1, 0, 101, 102}) {
            refusedClaims(7, pause);
        }
        for (int pause : Check.FAR) {
            refusedClaims(7, pause);
        }
    }

    @Sentence(in = "Promise 3", says = "Throws `IllegalArgumentException` if an argument is out of range")
    static void promise3OneOfTheArgumentsOrBoth() {
        int[][] wrong = {{-1, 1}, {0, 0}, {-1, 0}, {101, 100}, {100, 101}, {101, 101}, {101, 0}, {-1, 101}};
        for (int[] one : wrong) {
            refusedClaims(one[0], one[1]);
        }
    }

    // ---- Promise 4

    @Sentence(in = "Promise 4", says = "Lets days pass.")
    static void promise4LetsDaysPass() {
        IssueDesk desk = new IssueDesk();
        desk.advance(8);
        Check.same("day", desk.day(), 8);
        Check.same("what was in time is late", desk.late(), 1);
        desk.advance(22);
        Check.same("what is due is foretold", desk.foretold(), 2);
        Check.same("with its day", desk.dayOf(1), 30);
        desk.checkIn(0, 0);
        desk.advance(400);
        Check.same("states stay", desk.stateOf(0), IssueDesk.HELD);
        Check.same("nothing is claimed by that", desk.claimsOf(1), 0);
    }

    private static void refusedDays(int days, Class<? extends RuntimeException> due, Stories.Story before) {
        Refusal.of("advance(" + days + ")", due, before, desk -> desk.advance(days));
    }

    @Sentence(in = "Promise 4", says = "`days`: 1 to 400")
    static void promise4Days1To400() {
        for (int days : new int[] {1, 2, 399, 400}) {
            IssueDesk desk = new IssueDesk();
            Check.same("advance(" + days + ")", desk.advance(days), days);
            Check.same("day", desk.day(), days);
            Check.same("foretold", desk.foretold(), days / 30 + 1);
        }
    }

    @Sentence(in = "Promise 4", says = "Returns the day then.")
    static void promise4ReturnsTheDayThen() {
        IssueDesk desk = new IssueDesk();
        int[] days = {1, 1, 29, 400, 399};
        int[] due = {1, 2, 31, 431, 830};
        for (int i = 0; i < days.length; i++) {
            Check.same("advance(" + days[i] + ")", desk.advance(days[i]), due[i]);
        }
        IssueDesk end = Stories.after(Stories::nearTheEnd);
        Check.same("to the last day", end.advance(26), 7200);
    }

    @Sentence(in = "Promise 4", says = "Throws `IllegalArgumentException` if days is out of range")
    static void promise4DaysOutOfRange() {
        for (int days : new int[] {-400, -1, 0, 401, 402, 7200}) {
            refusedDays(days, Check.BAD_ARGUMENT, Stories::busy);
        }
        for (int days : Check.FAR) {
            refusedDays(days, Check.BAD_ARGUMENT, Stories::busy);
            refusedDays(days, Check.BAD_ARGUMENT, Stories::nearTheEnd);
        }
    }

    @Sentence(in = "Promise 4", says = "Throws `IllegalStateException` if the day would be above 7200")
    static void promise4TheDayAbove7200() {
        Check.same("7174 and 26", Stories.after(Stories::nearTheEnd).advance(26), 7200);
        for (int days : new int[] {27, 28, 399, 400}) {
            refusedDays(days, Check.BAD_STATE, Stories::nearTheEnd);
        }
        Stories.Story lastDay = desk -> {
            Stories.nearTheEnd(desk);
            desk.advance(26);
        };
        for (int days : new int[] {1, 400}) {
            refusedDays(days, Check.BAD_STATE, lastDay);
        }
        for (int days : new int[] {0, 401}) {
            refusedDays(days, Check.BAD_ARGUMENT, lastDay);
        }
        IssueDesk desk = new IssueDesk();
        Stories.advanceTo(desk, 6800);
        Check.same("6800 and 400", desk.advance(400), 7200);
        IssueDesk dayMore = new IssueDesk();
        Stories.advanceTo(dayMore, 6801);
        Check.fails("6801 and 400", Check.BAD_STATE, () -> dayMore.advance(400));
        Check.same("day", dayMore.day(), 6801);
        Check.same("6801 and 399", dayMore.advance(399), 7200);
    }
}
