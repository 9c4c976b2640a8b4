/** The sentences of the promises 17 (ranges) to 21 (only): holdings. */
final class Promise17To21Edges {
    private Promise17To21Edges() {
    }

    /** Every second issue has come, from this one on. */
    private static void everySecond(IssueDesk desk, int first) {
        for (int issue = first; issue < 200; issue += 2) {
            desk.checkIn(issue, 0);
        }
    }

    private static void allCome(IssueDesk desk) {
        for (int issue = 0; issue < 200; issue += 5) {
            desk.checkIn(issue, 4);
        }
    }

    // ---- Promise 17

    @Sentence(in = "Promise 17", says = "Returns how many ranges the holdings have.")
    static void promise17None1OrUpTo100() {
        Check.same("none", new IssueDesk().ranges(), 0);
        Check.same("none, as it is skipped", Stories.after(desk -> desk.skip(0)).ranges(), 0);
        Check.same("none, as it is the other house's", Stories.after(desk -> desk.give(0, 199)).ranges(), 0);
        Check.same("one issue", Stories.after(desk -> desk.checkIn(199, 0)).ranges(), 1);
        Check.same("all issues", Stories.after(Promise17To21Edges::allCome).ranges(), 1);
        Check.same("every even one", Stories.after(desk -> everySecond(desk, 0)).ranges(), 100);
        Check.same("every odd one", Stories.after(desk -> everySecond(desk, 1)).ranges(), 100);
        Check.same("1 to 3, 5 to 7, 12 to 13", Stories.after(Stories::busy).ranges(), 3);
    }

    // ---- Promise 18

    private static void refusedRange(int k, Stories.Story before) {
        Refusal.of("rangeAt(" + k + ")", Check.NO_INDEX, before, desk -> desk.rangeAt(k));
    }

    @Sentence(in = "Promise 18", says = "Returns a range of the holdings.")
    static void promise18ARange() {
        IssueDesk desk = Stories.after(Stories::busy);
        Check.same("rangeAt(0)", desk.rangeAt(0), 1003);
        Check.same("rangeAt(1)", desk.rangeAt(1), 5007);
        Check.same("rangeAt(2)", desk.rangeAt(2), 12013);
        Check.same("rangeAt(0) again", desk.rangeAt(0), 1003);
    }

    @Sentence(in = "Promise 18", says = "`k`: from 0")
    static void promise18FirstAndLastRange() {
        IssueDesk even = Stories.after(desk -> everySecond(desk, 0));
        Check.same("the first of 100", even.rangeAt(0), 0);
        Check.same("the last of 100", even.rangeAt(99), 198198);
        IssueDesk odd = Stories.after(desk -> everySecond(desk, 1));
        Check.same("the first of 100", odd.rangeAt(0), 1001);
        Check.same("the last of 100", odd.rangeAt(99), 199199);
    }

    @Sentence(in = "Promise 18", says = "Returns 1000 times the first issue, and the last one, added.")
    static void promise18FirstAndLastIssue() {
        Check.same("0 alone", Stories.after(desk -> desk.checkIn(0, 0)).rangeAt(0), 0);
        Check.same("1 alone", Stories.after(desk -> desk.checkIn(1, 0)).rangeAt(0), 1001);
        Check.same("0 and 1", Stories.after(desk -> desk.checkIn(0, 1)).rangeAt(0), 1);
        Check.same("199 alone", Stories.after(desk -> desk.checkIn(199, 0)).rangeAt(0), 199199);
        Check.same("194 to 199", Stories.after(desk -> desk.checkIn(194, 5)).rangeAt(0), 194199);
        Check.same("0 to 199", Stories.after(Promise17To21Edges::allCome).rangeAt(0), 199);
    }

    @Sentence(in = "Promise 18", says = "Throws `IndexOutOfBoundsException` if there are not so many")
    static void promise18NotSoMany() {
        for (int k : new int[] {-3, -2, -1, 3, 4, 199, 200}) {
            refusedRange(k, Stories::busy);
        }
        for (int k : Check.FAR) {
            refusedRange(k, Stories::busy);
        }
        for (int k : new int[] {-1, 0, 1}) {
            refusedRange(k, desk -> { });
        }
        IssueDesk even = Stories.after(desk -> everySecond(desk, 0));
        Check.fails("rangeAt(100) of 100", Check.NO_INDEX, () -> even.rangeAt(100));
        IssueDesk all = Stories.after(Promise17To21Edges::allCome);
        Check.fails("rangeAt(1) of one", Check.NO_INDEX, () -> all.rangeAt(1));
    }

    // ---- Promise 19

    @Sentence(in = "Promise 19", says = "Tells whether an issue is held, by opening the ranges.")
    static void promise19Held() {
        IssueDesk desk = Stories.after(Stories::busy);
        boolean[] due = {false, true, true, true, false, true, true, true, false, false, false, false, true, true};
        for (int issue = 0; issue < due.length; issue++) {
            Check.same("isHeld(" + issue + ")", desk.isHeld(issue), due[issue]);
        }
        Check.same("one that the other house has", Stories.after(any -> any.give(0, 9)).isHeld(0), false);
    }

    @Sentence(in = "Promise 19", says = "`issue`: any number")
    static void promise19AnyNumber() {
        IssueDesk[] desks = {new IssueDesk(), Stories.after(Stories::busy),
            Stories.after(Promise17To21Edges::allCome), Stories.after(desk -> desk.checkIn(199, 0))};
        for (IssueDesk desk : desks) {
            for (int issue : new int[] {-1000, -200, -2, -1, 200, 201, 1000}) {
                Check.same("isHeld(" + issue + ")", desk.isHeld(issue), false);
            }
            for (int issue : Check.FAR) {
                Check.same("isHeld(" + issue + ")", desk.isHeld(issue), false);
            }
        }
    }

    @Sentence(in = "Promise 19", says = "Returns whether it is in one of them.")
    static void promise19AtTheEndsOfRanges() {
        IssueDesk desk = new IssueDesk();
        desk.checkIn(0, 2);
        desk.checkIn(100, 5);
        desk.checkIn(197, 2);
        int[] in = {0, 1, 2, 100, 101, 105, 197, 198, 199};
        for (int issue : in) {
            Check.same("isHeld(" + issue + ")", desk.isHeld(issue), true);
        }
        int[] out = {-1, 3, 99, 106, 196, 200};
        for (int issue : out) {
            Check.same("isHeld(" + issue + ")", desk.isHeld(issue), false);
        }
        for (int alone : new int[] {0, 1, 100, 198, 199}) {
            IssueDesk one = Stories.after(any -> any.checkIn(alone, 0));
            for (int issue = -1; issue <= 200; issue++) {
                Check.same(alone + " alone, isHeld(" + issue + ")", one.isHeld(issue), issue == alone);
            }
        }
    }

    // ---- Promise 20

    private static void refusedGift(int first, int last) {
        Refusal.of("give(" + first + ", " + last + ")", Check.BAD_ARGUMENT, Stories::busy,
            desk -> desk.give(first, last));
    }

    @Sentence(in = "Promise 20", says = "Gives a range of issues to the other house, besides what it has.")
    static void promise20BesidesWhatItHas() {
        IssueDesk desk = new IssueDesk();
        desk.give(3, 4);
        desk.give(6, 6);
        desk.give(4, 5);
        int[] due = {3, 4, 5, 6, IssueDesk.NONE};
        for (int k = 0; k < due.length; k++) {
            Check.same("only(false, " + k + ")", desk.only(false, k), due[k]);
        }
        Check.same("nothing is held by that", desk.ranges(), 0);
        Check.same("nor foretold", desk.foretold(), 1);
        Check.same("nor has come", desk.stateOf(0), IssueDesk.WAITED);
    }

    @Sentence(in = "Promise 20", says = "`first`: 0 to 199")
    static void promise20First0To199() {
        for (int first : new int[] {0, 1, 198, 199}) {
            IssueDesk desk = new IssueDesk();
            Check.same("give(" + first + ", 199)", desk.give(first, 199), 200 - first);
            Check.same("the first of them", desk.only(false, 0), first);
            Check.same("the last of them", desk.only(false, 199 - first), 199);
        }
        for (int first : new int[] {-200, -2, -1, 200, 201}) {
            refusedGift(first, 199);
            refusedGift(first, first);
        }
        for (int first : Check.FAR) {
            refusedGift(first, 199);
            refusedGift(first, first);
        }
    }

    @Sentence(in = "Promise 20", says = "`last`: first to 199")
    static void promise20LastFirstTo199() {
        int[][] right = {{0, 0, 1}, {0, 1, 2}, {199, 199, 1}, {198, 199, 2}, {100, 100, 1}, {0, 199, 200}};
        for (int[] one : right) {
            IssueDesk desk = new IssueDesk();
            Check.same("give(" + one[0] + ", " + one[1] + ")", desk.give(one[0], one[1]), one[2]);
            Check.same("the first of them", desk.only(false, 0), one[0]);
            Check.same("no more", desk.only(false, one[2]), IssueDesk.NONE);
        }
        int[][] wrong = {{0, -1}, {1, 0}, {100, 99}, {199, 198}, {199, 0}, {0, 200}, {199, 200}, {0, 201}};
        for (int[] one : wrong) {
            refusedGift(one[0], one[1]);
        }
        for (int last : Check.FAR) {
            refusedGift(0, last);
            refusedGift(199, last);
        }
    }

    @Sentence(in = "Promise 20", says = "Returns how many issues it has then.")
    static void promise20HowManyItHasThen() {
        IssueDesk desk = new IssueDesk();
        int[][] due = {{10, 19, 10}, {10, 19, 10}, {15, 24, 15}, {9, 9, 16}, {8, 25, 18}, {0, 0, 19}, {199, 199, 20},
            {0, 199, 200}, {0, 199, 200}, {77, 77, 200}};
        for (int[] one : due) {
            Check.same("give(" + one[0] + ", " + one[1] + ")", desk.give(one[0], one[1]), one[2]);
        }
    }

    @Sentence(in = "Promise 20", says = "Throws `IllegalArgumentException` if first or last is out of range")
    static void promise20FirstOrLastOrBoth() {
        int[][] wrong = {{-1, 200}, {-1, -2}, {200, 199}, {200, 200}, {201, 200}, {-5, 5},
            {Integer.MIN_VALUE, Integer.MAX_VALUE}, {Integer.MAX_VALUE, Integer.MIN_VALUE}};
        for (int[] one : wrong) {
            refusedGift(one[0], one[1]);
        }
        // one that would give more than is there before it leaves the range
        refusedGift(150, 200);
        refusedGift(-3, 50);
    }

    // ---- Promise 21

    private static void onlyAre(IssueDesk desk, boolean isHere, int... due) {
        for (int k = 0; k < due.length; k++) {
            Check.same("only(" + isHere + ", " + k + ")", desk.only(isHere, k), due[k]);
        }
        Check.same("only(" + isHere + ", " + due.length + ")", desk.only(isHere, due.length), IssueDesk.NONE);
    }

    @Sentence(in = "Promise 21",
        says = "Returns the k-th issue that is held here and not there, or the other way round.")
    static void promise21HereOrThere() {
        IssueDesk desk = Stories.after(Stories::busy);
        onlyAre(desk, true, 1, 12, 13);
        onlyAre(desk, false, 4, 8, 9);
        desk.checkIn(8, 1);
        onlyAre(desk, false, 4);
        desk.give(1, 13);
        onlyAre(desk, true);
        onlyAre(desk, false, 4, 10, 11);
    }

    @Sentence(in = "Promise 21",
        says = "`isHere`: whether it is held here, and not at the other house; otherwise there and not here")
    static void promise21WhatBothOrNoneHave() {
        onlyAre(new IssueDesk(), true);
        onlyAre(new IssueDesk(), false);
        IssueDesk same = new IssueDesk();
        same.checkIn(0, 2);
        same.give(0, 2);
        onlyAre(same, true);
        onlyAre(same, false);
        IssueDesk apart = new IssueDesk();
        apart.checkIn(0, 0);
        apart.checkIn(199, 0);
        apart.skip(1);
        apart.give(1, 2);
        apart.give(198, 198);
        onlyAre(apart, true, 0, 199);
        onlyAre(apart, false, 1, 2, 198);
    }

    @Sentence(in = "Promise 21", says = "`k`: from 0, by rising numbers")
    static void promise21FirstToLast() {
        IssueDesk here = Stories.after(Promise17To21Edges::allCome);
        IssueDesk there = Stories.after(desk -> desk.give(0, 199));
        for (int k = 0; k < 200; k++) {
            Check.same("only(true, " + k + ")", here.only(true, k), k);
            Check.same("only(false, " + k + ")", there.only(false, k), k);
        }
        IssueDesk order = new IssueDesk();
        order.checkIn(9, 0);
        order.checkIn(2, 0);
        order.checkIn(5, 0);
        order.give(8, 8);
        order.give(0, 0);
        order.give(4, 4);
        onlyAre(order, true, 2, 5, 9);
        onlyAre(order, false, 0, 4, 8);
    }

    @Sentence(in = "Promise 21", says = "Returns the issue; NONE if there are not so many.")
    static void promise21NotSoMany() {
        IssueDesk desk = Stories.after(Stories::busy);
        Check.same("the last one here", desk.only(true, 2), 13);
        Check.same("the last one there", desk.only(false, 2), 9);
        for (int k : new int[] {3, 4, 199, 200, Integer.MAX_VALUE}) {
            Check.same("only(true, " + k + ")", desk.only(true, k), IssueDesk.NONE);
            Check.same("only(false, " + k + ")", desk.only(false, k), IssueDesk.NONE);
        }
        IssueDesk all = Stories.after(Promise17To21Edges::allCome);
        Check.same("the last of all", all.only(true, 199), 199);
        Check.same("behind all", all.only(true, 200), IssueDesk.NONE);
        Check.same("none there", all.only(false, 0), IssueDesk.NONE);
    }

    @Sentence(in = "Promise 21", says = "Throws `IllegalArgumentException` if k is below 0")
    static void promise21KBelow0() {
        for (boolean isHere : new boolean[] {true, false}) {
            for (int k : new int[] {-1, -2, -200, Integer.MIN_VALUE}) {
                Refusal.of("only(" + isHere + ", " + k + ")", Check.BAD_ARGUMENT, Stories::busy,
                    desk -> desk.only(isHere, k));
                Refusal.of("only(" + isHere + ", " + k + ")", Check.BAD_ARGUMENT, desk -> { },
                    desk -> desk.only(isHere, k));
            }
            Check.same("0 is not below 0", new IssueDesk().only(isHere, 0), IssueDesk.NONE);
        }
    }
}
