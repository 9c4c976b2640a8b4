/** The sentences of the promises 5 (checkIn), 6 (skip) and 7 (round). */
final class Promise05To07Edges {
    private Promise05To07Edges() {
    }

    private static void refusedCheckIn(int issue, int bound, Class<? extends RuntimeException> due,
            Stories.Story before) {
        Refusal.of("checkIn(" + issue + ", " + bound + ")", due, before, desk -> desk.checkIn(issue, bound));
    }

    // ---- Promise 5

    @Sentence(in = "Promise 5", says = "Checks an issue in.")
    static void promise5ChecksIn() {
        IssueDesk desk = Stories.after(Stories::busy);
        desk.checkIn(9, 1);
        Check.same("stateOf(8)", desk.stateOf(8), IssueDesk.WAITED);
        Check.same("stateOf(9)", desk.stateOf(9), IssueDesk.HELD);
        Check.same("stateOf(10)", desk.stateOf(10), IssueDesk.BOUND);
        Check.same("stateOf(11)", desk.stateOf(11), IssueDesk.WAITED);
        Check.same("the day stays", desk.dayOf(9), 210);
        desk.checkIn(0, 0);
        Check.same("a late one", desk.stateOf(0), IssueDesk.HELD);
        Check.same("its claims stay", desk.claimsOf(0), 2);
        Check.same("day", desk.day(), 174);
    }

    @Sentence(in = "Promise 5", says = "`issue`: 0 to 199")
    static void promise5Issue0To199() {
        for (int issue : new int[] {0, 1, 2, 198, 199}) {
            IssueDesk desk = new IssueDesk();
            Check.same("checkIn(" + issue + ", 0)", desk.checkIn(issue, 0), issue + 1);
            Check.same("stateOf(" + issue + ")", desk.stateOf(issue), IssueDesk.HELD);
            Check.same("rangeAt(0)", desk.rangeAt(0), 1001 * issue);
        }
        IssueDesk end = Stories.after(Stories::nearTheEnd);
        Check.same("the last one", end.checkIn(199, 0), 200);
        Check.same("the last but one", end.checkIn(198, 0), 200);
    }

    @Sentence(in = "Promise 5", says = "`bound`: 0 to 5: how many further ones are bound with it")
    static void promise5Bound0To5() {
        for (int bound = 0; bound <= 5; bound++) {
            IssueDesk first = new IssueDesk();
            Check.same("checkIn(0, " + bound + ")", first.checkIn(0, bound), bound + 1);
            Check.same("rangeAt(0)", first.rangeAt(0), bound);
            IssueDesk last = new IssueDesk();
            Check.same("up to 199", last.checkIn(199 - bound, bound), 200);
            Check.same("rangeAt(0)", last.rangeAt(0), 1000 * (199 - bound) + 199);
        }
    }

    @Sentence(in = "Promise 5", says = "Returns how many issues are foretold then.")
    static void promise5ReturnsHowManyAreForetoldThen() {
        IssueDesk desk = new IssueDesk();
        int[][] due = {{0, 0, 1}, {2, 0, 3}, {1, 0, 3}, {3, 5, 9}, {15, 0, 16}, {9, 5, 16}, {194, 4, 199},
            {199, 0, 200}, {16, 0, 200}};
        for (int[] one : due) {
            Check.same("checkIn(" + one[0] + ", " + one[1] + ")", desk.checkIn(one[0], one[1]), one[2]);
            Check.same("foretold", desk.foretold(), one[2]);
        }
        IssueDesk byDays = new IssueDesk();
        byDays.advance(60);
        Check.same("those that days foretold count too", byDays.checkIn(0, 0), 3);
    }

    @Sentence(in = "Promise 5", says = "Throws `IndexOutOfBoundsException` if there is no such issue")
    static void promise5NoSuchIssue() {
        for (int issue : new int[] {-200, -6, -5, -2, -1, 200, 201, 205}) {
            for (int bound : new int[] {-1, 0, 1, 5, 6}) {
                refusedCheckIn(issue, bound, Check.NO_INDEX, Stories::busy);
            }
        }
        for (int issue : Check.FAR) {
            for (int bound : new int[] {Integer.MIN_VALUE, -1, 0, 5, Integer.MAX_VALUE}) {
                refusedCheckIn(issue, bound, Check.NO_INDEX, Stories::busy);
            }
        }
    }

    @Sentence(in = "Promise 5", says = "Throws `IllegalArgumentException` if bound is out of range")
    static void promise5BoundOutOfRange() {
        for (int issue : new int[] {0, 5, 8, 14, 190}) {
            for (int bound : new int[] {-6, -1, 6, 7, 10}) {
                refusedCheckIn(issue, bound, Check.BAD_ARGUMENT, Stories::busy);
            }
            for (int bound : Check.FAR) {
                refusedCheckIn(issue, bound, Check.BAD_ARGUMENT, Stories::busy);
            }
        }
    }

    @Sentence(in = "Promise 5", says = "or one of the bound ones would be above 199")
    static void promise5BoundAbove199() {
        for (int bound = 1; bound <= 5; bound++) {
            refusedCheckIn(200 - bound, bound, Check.BAD_ARGUMENT, Stories::busy);
            refusedCheckIn(199, bound, Check.BAD_ARGUMENT, Stories::busy);
            refusedCheckIn(200 - bound, bound, Check.BAD_ARGUMENT, Stories::allForetold);
            IssueDesk desk = Stories.after(Stories::busy);
            Check.same("just up to 199", desk.checkIn(199 - bound, bound), 200);
        }
        refusedCheckIn(199, Integer.MAX_VALUE, Check.BAD_ARGUMENT, Stories::busy);
        refusedCheckIn(1, Integer.MAX_VALUE, Check.BAD_ARGUMENT, Stories::busy);
    }

    @Sentence(in = "Promise 5",
        says = "Throws `IllegalStateException` if one of these issues is foretold and not WAITED for")
    static void promise5NotWaitedFor() {
        for (int issue : new int[] {1, 4, 5, 6, 7, 12, 13}) {
            refusedCheckIn(issue, 0, Check.BAD_STATE, Stories::busy);
        }
        // 0 is waited for and 1 held; 4 is skipped; 8 to 11 are waited for and 12 held; 14 is not foretold
        int[][] wrong = {{0, 1}, {0, 5}, {1, 5}, {4, 1}, {6, 1}, {8, 4}, {8, 5}, {11, 1}, {11, 3}, {10, 5},
            {13, 1}, {13, 5}};
        for (int[] one : wrong) {
            refusedCheckIn(one[0], one[1], Check.BAD_STATE, Stories::busy);
        }
        int[][] right = {{0, 0}, {8, 3}, {11, 0}, {14, 0}, {14, 5}};
        for (int[] one : right) {
            IssueDesk desk = Stories.after(Stories::busy);
            Check.same("checkIn(" + one[0] + ", " + one[1] + ")", desk.checkIn(one[0], one[1]),
                Math.max(14, one[0] + one[1] + 1));
        }
        refusedCheckIn(0, 0, Check.BAD_STATE, desk -> desk.checkIn(0, 0));
        refusedCheckIn(0, 5, Check.BAD_STATE, desk -> desk.checkIn(0, 0));
        refusedCheckIn(0, 0, Check.BAD_STATE, desk -> desk.skip(0));
        refusedCheckIn(199, 0, Check.BAD_STATE, Stories::allForetold);
        refusedCheckIn(198, 1, Check.BAD_STATE, Stories::allForetold);
        refusedCheckIn(194, 5, Check.BAD_STATE, Stories::allForetold);
        refusedCheckIn(199, 0, Check.BAD_STATE, desk -> desk.checkIn(194, 5));
        eachStateAtEachPlace();
    }

    private static void eachStateAtEachPlace() {
        for (int place = 0; place <= 5; place++) {
            int issue = 10 + place;
            Stories.Story[] states = {
                desk -> desk.checkIn(issue, 0), desk -> desk.checkIn(issue - 1, 1),
                desk -> {
                    desk.checkIn(issue + 1, 0);
                    desk.skip(issue);
                },
            };
            for (int state = 0; state < states.length; state++) {
                // a bound one at a later place would come with the one it is bound with, which is HELD itself
                if (state != 1 || place == 0) {
                    refusedCheckIn(10, place, Check.BAD_STATE, states[state]);
                    refusedCheckIn(10, 5, Check.BAD_STATE, states[state]);
                    if (place > 0) {
                        Check.same("those before it", Stories.after(states[state]).checkIn(10, place - 1) > 0, true);
                    }
                }
            }
        }
    }

    // ---- Promise 6

    private static void refusedSkip(int issue, Class<? extends RuntimeException> due, Stories.Story before) {
        Refusal.of("skip(" + issue + ")", due, before, desk -> desk.skip(issue));
    }

    @Sentence(in = "Promise 6", says = "Tells that an issue will not appear.")
    static void promise6WillNotAppear() {
        IssueDesk desk = Stories.after(Stories::busy);
        desk.skip(0);
        Check.same("stateOf(0)", desk.stateOf(0), IssueDesk.SKIPPED);
        Check.same("it is not late", desk.late(), 0);
        Check.same("it is not claimed", desk.round(), 0);
        Check.same("its claims stay", desk.claimsOf(0), 2);
        Check.same("it is not held", desk.isHeld(0), false);
        Check.same("its day stays", desk.dayOf(0), 0);
        Check.same("its neighbour stays", desk.stateOf(1), IssueDesk.HELD);
        Check.same("foretold", desk.foretold(), 14);
        Check.same("shift", desk.shift(), 4);
    }

    @Sentence(in = "Promise 6", says = "`issue`: an issue that is foretold")
    static void promise6AForetoldIssue() {
        IssueDesk first = new IssueDesk();
        first.skip(0);
        Check.same("the first one", first.stateOf(0), IssueDesk.SKIPPED);
        IssueDesk desk = Stories.after(Stories::busy);
        for (int issue : new int[] {8, 9, 10, 11}) {
            desk.skip(issue);
            Check.same("one whose day is ahead", desk.stateOf(issue), IssueDesk.SKIPPED);
        }
        IssueDesk today = new IssueDesk();
        today.advance(30);
        today.skip(1);
        Check.same("the last foretold one", today.stateOf(1), IssueDesk.SKIPPED);
        IssueDesk all = new IssueDesk();
        all.checkIn(198, 0);
        Check.fails("skip(199) before it is foretold", Check.NO_INDEX, () -> all.skip(199));
        all.setPattern(1, 12, true, 0);
        Stories.advanceTo(all, 198 * 30 + 1);
        all.skip(199);
        Check.same("the last one", all.stateOf(199), IssueDesk.SKIPPED);
    }

    @Sentence(in = "Promise 6", says = "Throws `IndexOutOfBoundsException` if it is not foretold")
    static void promise6NotForetold() {
        for (int issue : new int[] {-200, -1, 14, 15, 199, 200, 201}) {
            refusedSkip(issue, Check.NO_INDEX, Stories::busy);
        }
        for (int issue : Check.FAR) {
            refusedSkip(issue, Check.NO_INDEX, Stories::busy);
            refusedSkip(issue, Check.NO_INDEX, Stories::allForetold);
        }
        refusedSkip(1, Check.NO_INDEX, desk -> { });
        refusedSkip(1, Check.NO_INDEX, desk -> desk.advance(29));
        refusedSkip(200, Check.NO_INDEX, Stories::allForetold);
        refusedSkip(-1, Check.NO_INDEX, Stories::allForetold);
    }

    @Sentence(in = "Promise 6", says = "Throws `IllegalStateException` if it is not WAITED for")
    static void promise6NotWaitedFor() {
        for (int issue : new int[] {1, 2, 3, 4, 5, 6, 7, 12, 13}) {
            refusedSkip(issue, Check.BAD_STATE, Stories::busy);
        }
        refusedSkip(199, Check.BAD_STATE, Stories::allForetold);
        Stories.Story skippedByRound = desk -> {
            desk.setClaims(0, 1);
            for (int i = 0; i < 4; i++) {
                desk.advance(1);
                desk.round();
            }
        };
        refusedSkip(0, Check.BAD_STATE, skippedByRound);
    }

    // ---- Promise 7

    @Sentence(in = "Promise 7", says = "Makes a round of claims.")
    static void promise7MakesARound() {
        Refusal.sameBehind("a round in which nothing is late", desk -> {
            desk.advance(7);
            desk.round();
        }, desk -> desk.advance(7));
        Refusal.sameBehind("a second round on the same day", desk -> {
            Stories.busy(desk);
            desk.round();
            desk.round();
        }, Stories::busy);
        IssueDesk desk = Stories.after(Stories::busy);
        desk.advance(5);
        desk.round();
        Check.same("the third claim", desk.claimsOf(0), 3);
        Check.same("foretold", desk.foretold(), 14);
        Check.same("shift", desk.shift(), 4);
    }

    @Sentence(in = "Promise 7", says = "Returns how many issues were claimed in it.")
    static void promise7ReturnsHowManyWereClaimed() {
        IssueDesk desk = new IssueDesk();
        Check.same("none is late", desk.round(), 0);
        desk.setPattern(10, 12, true, 0);
        desk.setClaims(0, 10);
        int[] due = {1, 2, 3, 3, 3, 3};
        for (int i = 0; i < due.length; i++) {
            desk.advance(i == 0 ? 1 : 10);
            Check.same("the round at the day " + desk.day(), desk.round(), due[i]);
            Check.same("the same day again", desk.round(), 0);
        }
        Check.same("the oldest is skipped, and was not counted", desk.stateOf(0), IssueDesk.SKIPPED);
        Check.same("the last skipped one", desk.stateOf(2), IssueDesk.SKIPPED);
        Check.same("the next", desk.stateOf(3), IssueDesk.WAITED);
        IssueDesk all = new IssueDesk();
        all.setPattern(1, 12, true, 0);
        all.advance(207);
        Check.same("all, the last one's grace being over", all.round(), 200);
        IssueDesk mostly = new IssueDesk();
        mostly.setPattern(1, 12, true, 0);
        mostly.advance(206);
        Check.same("all but the last, whose grace is not over", mostly.round(), 199);
    }
}
