/** Promises 5 (checkIn), 6 (skip), 12 (stateOf). */
public final class CheckInTest {
    public static void main(String[] args) {
        single();
        bound();
        foretellsLowerOnes();
        usesTheShiftForTheFirst();
        arguments();
        states();
        throwChangesNothing();
        boundOnesMustBeWaitedFor();
        boundBeyondForetold();
        edgeAt199();
        skip();
        stateOf();
        Check.end();
    }

    private static void single() {
        IssueDesk desk = new IssueDesk();
        Check.same("5: checkIn(0, 0)", desk.checkIn(0, 0), 1);
        Check.same("5: stateOf(0)", desk.stateOf(0), IssueDesk.HELD);
        desk.advance(60);
        Check.same("5: checkIn(2, 0)", desk.checkIn(2, 0), 3);
        Check.same("5: the one between waits", desk.stateOf(1), IssueDesk.WAITED);
        Check.same("5: stateOf(2)", desk.stateOf(2), IssueDesk.HELD);
    }

    private static void bound() {
        IssueDesk desk = new IssueDesk();
        desk.advance(300);
        Check.same("5: checkIn(2, 5)", desk.checkIn(2, 5), 11);
        Check.same("5: stateOf(1)", desk.stateOf(1), IssueDesk.WAITED);
        Check.same("5: stateOf(2)", desk.stateOf(2), IssueDesk.HELD);
        for (int issue = 3; issue < 8; issue++) {
            Check.same("5: bound", desk.stateOf(issue), IssueDesk.BOUND);
        }
        Check.same("5: stateOf(8)", desk.stateOf(8), IssueDesk.WAITED);
    }

    private static void foretellsLowerOnes() {
        IssueDesk desk = new IssueDesk();
        Check.same("5: checkIn(3, 2)", desk.checkIn(3, 2), 6);
        for (int issue = 0; issue < 6; issue++) {
            Check.same("5: dayOf", desk.dayOf(issue), 30 * issue);
            int due = issue < 3 ? IssueDesk.WAITED : issue == 3 ? IssueDesk.HELD : IssueDesk.BOUND;
            Check.same("5: stateOf", desk.stateOf(issue), due);
        }
        Check.same("5: foretold", desk.foretold(), 6);
    }

    private static void usesTheShiftForTheFirst() {
        IssueDesk desk = new IssueDesk();
        desk.advance(60);
        // it is 60 days late, which is no shift; the issues 3 to 5 are 4 days late each
        desk.checkIn(0, 2);
        for (int issue = 3; issue < 6; issue++) {
            desk.advance(30 * issue + 4 - desk.day());
            desk.checkIn(issue, 0);
        }
        Check.same("5: shift", desk.shift(), 4);
        Check.same("5: checkIn(8, 1)", desk.checkIn(8, 1), 10);
        Check.same("5: shift is used", desk.shift(), 0);
        Check.same("5: dayOf(6)", desk.dayOf(6), 184);
        Check.same("5: dayOf(7)", desk.dayOf(7), 214);
        Check.same("5: dayOf(9)", desk.dayOf(9), 274);
    }

    private static void arguments() {
        IssueDesk desk = new IssueDesk();
        for (int issue : new int[] {-1, 200, Integer.MAX_VALUE, Integer.MIN_VALUE}) {
            for (int bound : new int[] {0, 6, -1, Integer.MAX_VALUE, Integer.MIN_VALUE}) {
                Check.fails("5: checkIn(" + issue + ", " + bound + ")", Check.NO_INDEX,
                    () -> desk.checkIn(issue, bound));
            }
        }
        for (int bound : new int[] {-1, 6, Integer.MAX_VALUE, Integer.MIN_VALUE}) {
            Check.fails("5: checkIn(0, " + bound + ")", Check.BAD_ARGUMENT, () -> desk.checkIn(0, bound));
            Check.fails("5: checkIn(199, " + bound + ")", Check.BAD_ARGUMENT, () -> desk.checkIn(199, bound));
        }
        Check.same("5: foretold", desk.foretold(), 1);
        desk.checkIn(0, 0);
        Check.fails("5: bound goes before the state", Check.BAD_ARGUMENT, () -> desk.checkIn(0, 6));
        Check.fails("5: bound goes before the state", Check.BAD_ARGUMENT, () -> desk.checkIn(0, -1));
        Check.fails("5: twice", Check.BAD_STATE, () -> desk.checkIn(0, 0));
    }

    private static void states() {
        IssueDesk desk = new IssueDesk();
        desk.checkIn(0, 1);
        desk.checkIn(2, 0);
        desk.advance(90);
        desk.skip(3);
        for (int issue = 0; issue < 4; issue++) {
            int one = issue;
            Check.fails("5: checkIn(" + one + ", 0)", Check.BAD_STATE, () -> desk.checkIn(one, 0));
        }
    }

    private static void throwChangesNothing() {
        IssueDesk desk = new IssueDesk();
        desk.advance(30);
        desk.skip(1);
        Check.fails("5: a skipped one would be bound", Check.BAD_STATE, () -> desk.checkIn(0, 5));
        Check.same("5: foretold after a throw", desk.foretold(), 2);
        Check.same("5: stateOf(0) after a throw", desk.stateOf(0), IssueDesk.WAITED);
        Check.same("5: stateOf(1) after a throw", desk.stateOf(1), IssueDesk.SKIPPED);
        Check.same("5: ranges after a throw", desk.ranges(), 0);
    }

    private static void boundOnesMustBeWaitedFor() {
        for (int held = 1; held <= 5; held++) {
            IssueDesk desk = new IssueDesk();
            desk.checkIn(held, 0);
            for (int bound = held; bound <= 5; bound++) {
                int one = bound;
                Check.fails("5: checkIn(0, " + one + ")", Check.BAD_STATE, () -> desk.checkIn(0, one));
            }
            Check.same("5: up to the held one", desk.checkIn(0, held - 1), held + 1);
        }
    }

    private static void boundBeyondForetold() {
        IssueDesk desk = new IssueDesk();
        Check.same("5: a waited one and two not foretold", desk.checkIn(0, 2), 3);
        Check.same("5: stateOf(2)", desk.stateOf(2), IssueDesk.BOUND);
    }

    private static void edgeAt199() {
        IssueDesk desk = new IssueDesk();
        Check.fails("5: checkIn(199, 1)", Check.BAD_ARGUMENT, () -> desk.checkIn(199, 1));
        Check.fails("5: checkIn(195, 5)", Check.BAD_ARGUMENT, () -> desk.checkIn(195, 5));
        Check.same("5: foretold", desk.foretold(), 1);
        Check.same("5: checkIn(194, 5)", desk.checkIn(194, 5), 200);
        Check.same("5: stateOf(199)", desk.stateOf(199), IssueDesk.BOUND);
        Check.fails("5: above 199 goes before the state", Check.BAD_ARGUMENT, () -> desk.checkIn(199, 1));
    }

    private static void skip() {
        IssueDesk desk = new IssueDesk();
        desk.advance(89);
        for (int issue : new int[] {-1, 3, 199, 200, Integer.MAX_VALUE, Integer.MIN_VALUE}) {
            Check.fails("6: skip(" + issue + ")", Check.NO_INDEX, () -> desk.skip(issue));
        }
        desk.skip(2);
        Check.same("6: stateOf(2)", desk.stateOf(2), IssueDesk.SKIPPED);
        Check.same("6: stateOf(1)", desk.stateOf(1), IssueDesk.WAITED);
        Check.fails("6: skip(2) again", Check.BAD_STATE, () -> desk.skip(2));
        desk.checkIn(0, 1);
        Check.fails("6: skip of a held one", Check.BAD_STATE, () -> desk.skip(0));
        Check.fails("6: skip of a bound one", Check.BAD_STATE, () -> desk.skip(1));
        Check.same("6: stateOf(0)", desk.stateOf(0), IssueDesk.HELD);
        Check.same("6: stateOf(1)", desk.stateOf(1), IssueDesk.BOUND);
        Check.same("6: a skipped one is not held", desk.rangeAt(0), 1);
        Check.same("6: dayOf(2) stays", desk.dayOf(2), 60);
        Check.same("6: foretold", desk.foretold(), 3);
    }

    private static void stateOf() {
        IssueDesk desk = new IssueDesk();
        desk.advance(30);
        for (int issue : new int[] {-1, 2, 199, 200, Integer.MAX_VALUE, Integer.MIN_VALUE}) {
            Check.fails("12: stateOf(" + issue + ")", Check.NO_INDEX, () -> desk.stateOf(issue));
        }
        Check.same("12: stateOf(1)", desk.stateOf(1), IssueDesk.WAITED);
        desk.checkIn(199, 0);
        Check.same("12: stateOf(199)", desk.stateOf(199), IssueDesk.HELD);
        Check.same("12: stateOf(198)", desk.stateOf(198), IssueDesk.WAITED);
    }
}
