/** The sentences of Terms on the pattern and the levels. */
final class PatternEdges {
    private PatternEdges() {
    }

    /** The day of the issue 21, when a shift waits, 20 has the day 600, and the pattern has changed to these. */
    private static int dayBehind600(int shift, int gap, int skipped) {
        IssueDesk desk = Stories.after(any -> Stories.early(any, shift));
        Check.same("the shift that waits", desk.shift(), shift);
        desk.setPattern(gap, 12, true, skipped);
        desk.checkIn(21, 0);
        return desk.dayOf(21);
    }

    @Sentence(in = "Terms",
        says = "It has a gap in days, a size of volumes, whether numbers begin anew, and a set of skipped months.")
    static void eachPartOfThePatternCountsAlone() {
        int[][] due = {{30, 12, 1, 0, 30, 2001}, {40, 12, 1, 0, 40, 2001}, {30, 11, 1, 0, 30, 2002},
            {30, 12, 0, 0, 30, 2013}, {30, 12, 1, 2, 60, 2001}};
        for (int[] one : due) {
            IssueDesk desk = new IssueDesk();
            desk.setPattern(one[0], one[1], one[2] == 1, one[3]);
            Check.same("labelOf(12)", desk.labelOf(12), one[5]);
            desk.checkIn(1, 0);
            Check.same("dayOf(1)", desk.dayOf(1), one[4]);
        }
    }

    @Sentence(in = "Terms", says = "Issues are numbered from 0 on, 0 to 199.")
    static void thereAre200Issues() {
        IssueDesk desk = new IssueDesk();
        desk.setPattern(1, 1, true, 0);
        desk.advance(198);
        Check.same("0 to 198 at the day 198", desk.foretold(), 199);
        desk.advance(1);
        Check.same("0 to 199 at the day 199", desk.foretold(), 200);
        desk.advance(1);
        Check.same("no 200 at the day 200", desk.foretold(), 200);
        desk.advance(400);
        Check.same("no further one", desk.foretold(), 200);
        desk.setPattern(2, 1, true, 0);
        Check.same("nor by a new pattern", desk.foretold(), 200);
        Check.same("a check-in of the last one", desk.checkIn(199, 0), 200);
        Check.same("dayOf(199)", desk.dayOf(199), 199);
        Check.same("find the last one", desk.find(200, 1), 199);
        Check.same("find no 200", desk.find(201, 1), IssueDesk.NONE);
        Check.fails("dayOf(200)", Check.NO_INDEX, () -> desk.dayOf(200));
        Check.fails("labelOf(200)", Check.NO_INDEX, () -> desk.labelOf(200));
        Check.fails("checkIn(200, 0)", Check.NO_INDEX, () -> desk.checkIn(200, 0));
    }

    @Sentence(in = "Terms", says = "An issue that is foretold has a day, which stays.")
    static void theDayOfAForetoldIssueStays() {
        Stories.Story[] changes = {
            any -> any.setPattern(1, 1, false, 4094), any -> any.setClaims(0, 1), any -> any.advance(400),
            any -> Stories.comeAt(any, 8, 2, 4), any -> any.checkIn(40, 5), any -> any.skip(0),
            IssueDesk::round, any -> any.give(0, 199),
        };
        int[] due = {0, 20, 40, 90, 110, 130, 150, 170, 190, 210, 230, 250, 270, 290};
        for (int change = 0; change < changes.length; change++) {
            IssueDesk desk = Stories.after(Stories::busy);
            Check.same("foretold", desk.foretold(), due.length);
            changes[change].tell(desk);
            for (int issue = 0; issue < due.length; issue++) {
                Check.same("dayOf(" + issue + ") behind change " + change, desk.dayOf(issue), due[issue]);
            }
        }
    }

    @Sentence(in = "Terms", says = "The issue 0 is foretold for the day 0, whatever the pattern is.")
    static void theIssue0HasTheDay0() {
        for (int skipped : new int[] {0, 1, 2047, 4093, 4094}) {
            for (int gap : new int[] {1, 90}) {
                IssueDesk desk = new IssueDesk();
                desk.setPattern(gap, 1, true, skipped);
                Check.same("foretold", desk.foretold(), 1);
                Check.same("dayOf(0)", desk.dayOf(0), 0);
                desk.advance(400);
                Check.same("dayOf(0) later", desk.dayOf(0), 0);
                Check.same("stateOf(0)", desk.stateOf(0), IssueDesk.WAITED);
            }
        }
    }

    @Sentence(in = "Terms", says = "The day of each further issue is worked out when it is foretold:")
    static void theDayIsWorkedOutByThePatternOfThatTime() {
        IssueDesk desk = new IssueDesk();
        int[] gaps = {30, 1, 90, 7};
        int[] due = {30, 31, 121, 128};
        for (int i = 0; i < gaps.length; i++) {
            desk.setPattern(gaps[i], 12, true, 0);
            desk.checkIn(i + 1, 0);
            Check.same("dayOf(" + (i + 1) + ")", desk.dayOf(i + 1), due[i]);
        }
        // 128 and 30 is 158, in month 5; the month that is skipped when the day comes is another one than before
        desk.setPattern(30, 12, true, 1 << 5);
        desk.setPattern(30, 12, true, 1 << 6);
        desk.advance(158);
        Check.same("dayOf(5)", desk.dayOf(5), 158);
        desk.advance(30);
        Check.same("188 is in month 6", desk.foretold(), 6);
        desk.advance(22);
        Check.same("dayOf(6)", desk.dayOf(6), 210);
    }

    @Sentence(in = "Terms", says = "the day of the one before it, the gap, and the shift that waits, added")
    static void gapAndShiftAreAdded() {
        Check.same("no shift, the least gap", noShift(1), 601);
        Check.same("no shift, the largest gap", noShift(90), 690);
        Check.same("a shift of -1", dayBehind600(-1, 30, 0), 629);
        Check.same("a shift of -15", dayBehind600(-15, 90, 0), 675);
        Check.same("a shift of 1", dayBehind600(1, 30, 0), 631);
        Check.same("a shift of 15", dayBehind600(15, 1, 0), 616);
        Check.same("a shift of 15", dayBehind600(15, 90, 0), 705);
    }

    private static int noShift(int gap) {
        IssueDesk desk = new IssueDesk();
        desk.checkIn(20, 0);
        desk.setPattern(gap, 12, true, 0);
        desk.checkIn(21, 0);
        return desk.dayOf(21);
    }

    @Sentence(in = "Terms", says = "(the shift that waits is 0 then);")
    static void theShiftIs0Then() {
        IssueDesk byCheckIn = Stories.after(any -> Stories.early(any, -8));
        byCheckIn.checkIn(22, 1);
        Check.same("dayOf(21) has the shift", byCheckIn.dayOf(21), 622);
        Check.same("dayOf(22) has none", byCheckIn.dayOf(22), 652);
        Check.same("dayOf(23) has none", byCheckIn.dayOf(23), 682);
        Check.same("shift", byCheckIn.shift(), 0);
        IssueDesk byDays = Stories.after(any -> Stories.early(any, 8));
        Stories.advanceTo(byDays, 637);
        Check.same("the shift waits", byDays.shift(), 8);
        Check.same("foretold", byDays.foretold(), 21);
        byDays.advance(1);
        Check.same("foretold", byDays.foretold(), 22);
        Check.same("shift", byDays.shift(), 0);
        byDays.advance(30);
        Check.same("dayOf(22) has none", byDays.dayOf(22), 668);
        IssueDesk atOnce = Stories.after(any -> Stories.early(any, 8));
        Stories.advanceTo(atOnce, 668);
        Check.same("two at once: dayOf(21)", atOnce.dayOf(21), 638);
        Check.same("two at once: dayOf(22)", atOnce.dayOf(22), 668);
        Check.same("shift", atOnce.shift(), 0);
    }

    @Sentence(in = "Terms", says = "at least the day behind that of the one before it;")
    static void atLeastTheDayBehind() {
        int[][] due = {{12, 602}, {11, 601}, {10, 601}, {9, 601}, {1, 601}};
        for (int[] one : due) {
            Check.same("a gap of " + one[0] + " and a shift of -10", dayBehind600(-10, one[0], 0), one[1]);
        }
        Check.same("a gap of 1 and a shift of -15", dayBehind600(-15, 1, 0), 601);
        IssueDesk desk = Stories.after(any -> Stories.early(any, -15));
        for (int issue = 4; issue < 16; issue++) {
            Stories.comeAt(desk, issue, 0, -15);
        }
        Check.same("five shifts of -15", desk.shift(), -75);
        desk.setPattern(1, 12, true, 0);
        desk.checkIn(22, 0);
        Check.same("a gap of 1 and a shift of -75", desk.dayOf(21), 601);
        Check.same("then the gap", desk.dayOf(22), 602);
    }

    @Sentence(in = "Terms", says = "if that day is in a skipped month, the first later day that is not.")
    static void theFirstLaterDayThatIsNotSkipped() {
        // 600 is the first day of month 8 of the second year
        Check.same("the last day before", dayBehind600(-1, 30, 1 << 9), 629);
        Check.same("the first day of it", dayBehind600(-1, 31, 1 << 9), 660);
        Check.same("the last day of it", dayBehind600(-1, 60, 1 << 9), 660);
        Check.same("the day behind it", dayBehind600(-1, 61, 1 << 9), 660);
        Check.same("two months", dayBehind600(-1, 31, 3 << 9), 690);
        Check.same("the second of two months", dayBehind600(-1, 61, 3 << 9), 690);
        Check.same("the last day of two months", dayBehind600(-1, 90, 3 << 9), 690);
        Check.same("the day behind two months", dayBehind600(1, 89, 3 << 9), 690);
        Check.same("the end of a year", dayBehind600(-1, 31, 7 << 9), 720);
        Check.same("over the end of a year", dayBehind600(-1, 31, 7 << 9 | 1), 750);
        Check.same("over the end of a year", dayBehind600(1, 89, 1 << 11 | 3), 780);
        Check.same("the same month, a year later", dayBehind600(-1, 30, 4095 - (1 << 7)), 930);
        Check.same("only its own month is not", dayBehind600(-1, 30, 4095 - (1 << 8)), 629);
        Check.same("only its own month is not", dayBehind600(-1, 31, 4095 - (1 << 8)), 960);
        Check.same("the day behind the one before it is in one", dayBehind600(-10, 1, 1 << 8), 630);
        Check.same("a shift leads into one", dayBehind600(1, 29, 1 << 9), 660);
    }

    @Sentence(in = "Terms",
        says = "As long as the next issue would get a day that is today or earlier, it is foretold.")
    static void todaysIsForetoldTomorrowsIsNot() {
        int[][] due = {{29, 1}, {30, 2}, {31, 2}, {59, 2}, {60, 3}, {61, 3}, {389, 13}, {390, 14}, {400, 14}};
        for (int[] one : due) {
            IssueDesk desk = new IssueDesk();
            desk.advance(one[0]);
            Check.same("at the day " + one[0], desk.foretold(), one[1]);
        }
        IssueDesk daily = new IssueDesk();
        daily.setPattern(1, 12, true, 0);
        Check.same("tomorrow's is not", daily.foretold(), 1);
        daily.advance(1);
        Check.same("today's is", daily.foretold(), 2);
        IssueDesk skipping = new IssueDesk();
        skipping.setPattern(30, 12, true, 2);
        skipping.advance(59);
        Check.same("its month is skipped", skipping.foretold(), 1);
        skipping.advance(1);
        Check.same("it has passed", skipping.foretold(), 2);
        skipping.advance(340);
        // 60, 90 and so on to 360; 390 is skipped again
        Check.same("several at once", skipping.foretold(), 12);
        Check.same("the last of them", skipping.dayOf(11), 360);
    }

    @Sentence(in = "Terms", says = "(This is looked at behind each call that changes something.)")
    static void lookedAtBehindEachChange() {
        int[][] due = {{90, 1}, {46, 1}, {45, 2}, {44, 2}, {23, 2}, {22, 3}, {1, 46}};
        for (int[] one : due) {
            IssueDesk desk = new IssueDesk();
            desk.setPattern(90, 12, true, 0);
            desk.advance(45);
            desk.setPattern(one[0], 12, true, 0);
            Check.same("a new gap of " + one[0] + " at the day 45", desk.foretold(), one[1]);
        }
        IssueDesk months = new IssueDesk();
        months.setPattern(30, 12, true, 2);
        months.advance(30);
        Check.same("month 1 is skipped", months.foretold(), 1);
        months.setPattern(30, 12, true, 0);
        Check.same("and now it is not", months.foretold(), 2);
        for (Stories.Story change : new Stories.Story[] {any -> any.setClaims(0, 1), any -> any.skip(0),
            any -> any.checkIn(0, 0), IssueDesk::round, any -> any.give(0, 9)}) {
            IssueDesk desk = new IssueDesk();
            desk.advance(59);
            change.tell(desk);
            Check.same("tomorrow's is not foretold by another change", desk.foretold(), 2);
        }
    }

    @Sentence(in = "Terms", says = "The issue i is in the volume i divided by the size, rounded down, plus 1;")
    static void volumesChangeWhereTheSizeIsFull() {
        for (int size = 1; size <= 20; size++) {
            IssueDesk desk = new IssueDesk();
            desk.setPattern(30, size, true, 0);
            Check.same("the first one", desk.labelOf(0) / 1000, 1);
            Check.same("the last one of volume 1", desk.labelOf(size - 1) / 1000, 1);
            Check.same("the first one of volume 2", desk.labelOf(size) / 1000, 2);
            Check.same("the last one of volume 2", desk.labelOf(2 * size - 1) / 1000, 2);
            Check.same("the first one of volume 3", desk.labelOf(2 * size) / 1000, 3);
            Check.same("the last one of all", desk.labelOf(199) / 1000, 199 / size + 1);
        }
    }

    @Sentence(in = "Terms",
        says = "its number is, if numbers begin anew, the rest of that division, plus 1, otherwise i plus 1.")
    static void numbersBeginAnewOrGoOn() {
        for (int size = 1; size <= 20; size++) {
            IssueDesk desk = new IssueDesk();
            desk.setPattern(30, size, true, 0);
            Check.same("anew: the first one", desk.labelOf(0) % 1000, 1);
            Check.same("anew: the last one of volume 1", desk.labelOf(size - 1) % 1000, size);
            Check.same("anew: the first one of volume 2", desk.labelOf(size) % 1000, 1);
            Check.same("anew: the last one of all", desk.labelOf(199) % 1000, 199 % size + 1);
            desk.setPattern(30, size, false, 0);
            Check.same("going on: the first one", desk.labelOf(0) % 1000, 1);
            Check.same("going on: the last one of volume 1", desk.labelOf(size - 1) % 1000, size);
            Check.same("going on: the first one of volume 2", desk.labelOf(size) % 1000, size + 1);
            Check.same("going on: the last one of all", desk.labelOf(199) % 1000, 200);
        }
    }

    @Sentence(in = "Terms", says = "They go by the pattern as it is now.")
    static void levelsGoByThePatternOfNow() {
        IssueDesk desk = new IssueDesk();
        desk.advance(400);
        Check.same("labelOf(13)", desk.labelOf(13), 2002);
        desk.checkIn(13, 0);
        desk.setPattern(30, 5, true, 0);
        Check.same("one that has come", desk.labelOf(13), 3004);
        Check.same("find", desk.find(3, 4), 13);
        Check.same("one that is not foretold", desk.labelOf(14), 3005);
        desk.setPattern(30, 5, false, 0);
        Check.same("one that has come", desk.labelOf(13), 3014);
        Check.same("find", desk.find(3, 14), 13);
        Check.same("find by the pattern before", desk.find(3, 4), IssueDesk.NONE);
    }
}
