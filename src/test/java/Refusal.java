import java.util.ArrayList;
import java.util.List;

/**
 * A refused call: it throws the due class, and the desk answers everything behind it as one that never saw the
 * call. What can't be asked for (gap, months, grace, pause, claim days, earlier check-ins) is looked at by what
 * comes of it. Each view takes desks of its own, so that none has more than 512 calls.
 */
final class Refusal {
    private interface View {
        void look(IssueDesk desk, List<Long> answers);
    }

    private static final View[] VIEWS = {
        Refusal::daysAndRanges, Refusal::statesAndClaims, Refusal::levelsAndHeld, Refusal::bothHouses,
        Refusal::patternToCome, Refusal::claimsToCome, Refusal::shiftsToCome,
    };

    private Refusal() {
    }

    static void of(String call, Class<? extends RuntimeException> due, Stories.Story before, Stories.Story refused) {
        Check.fails(call, due, () -> refused.tell(Stories.after(before)));
        sameBehind(call + " changes nothing", desk -> {
            before.tell(desk);
            Check.outcome(() -> {
                refused.tell(desk);
                return 0;
            });
        }, before);
    }

    static void sameBehind(String what, Stories.Story one, Stories.Story other) {
        for (int view = 0; view < VIEWS.length; view++) {
            List<Long> got = new ArrayList<>();
            List<Long> due = new ArrayList<>();
            VIEWS[view].look(Stories.after(one), got);
            VIEWS[view].look(Stories.after(other), due);
            Check.same(what + ", view " + view, got.equals(due), true);
        }
    }

    private static void daysAndRanges(IssueDesk desk, List<Long> answers) {
        answers.add(Check.outcome(desk::day));
        answers.add(Check.outcome(desk::foretold));
        answers.add(Check.outcome(desk::shift));
        answers.add(Check.outcome(desk::late));
        answers.add(Check.outcome(desk::ranges));
        for (int i = 0; i < 200; i++) {
            int one = i;
            answers.add(Check.outcome(() -> desk.dayOf(one)));
            answers.add(Check.outcome(() -> desk.rangeAt(one)));
        }
    }

    private static void statesAndClaims(IssueDesk desk, List<Long> answers) {
        for (int i = 0; i < 200; i++) {
            int one = i;
            answers.add(Check.outcome(() -> desk.stateOf(one)));
            answers.add(Check.outcome(() -> desk.claimsOf(one)));
        }
    }

    private static void levelsAndHeld(IssueDesk desk, List<Long> answers) {
        for (int i = 0; i < 200; i++) {
            int one = i;
            answers.add(Check.outcome(() -> desk.labelOf(one)));
            answers.add(Check.outcome(() -> desk.isHeld(one) ? 1 : 0));
        }
    }

    private static void bothHouses(IssueDesk desk, List<Long> answers) {
        for (int i = 0; i < 200; i++) {
            int one = i;
            answers.add(Check.outcome(() -> desk.only(true, one)));
            answers.add(Check.outcome(() -> desk.only(false, one)));
        }
        answers.add(Check.outcome(() -> desk.give(0, 0)));
    }

    private static void patternToCome(IssueDesk desk, List<Long> answers) {
        answers.add(Check.outcome(() -> desk.checkIn(198, 0)));
        for (int i = 0; i < 200; i++) {
            int one = i;
            answers.add(Check.outcome(() -> desk.dayOf(one)));
        }
    }

    private static void claimsToCome(IssueDesk desk, List<Long> answers) {
        for (int i = 0; i < 60; i++) {
            answers.add(Check.outcome(() -> desk.advance(1)));
            answers.add(Check.outcome(desk::late));
            answers.add(Check.outcome(desk::round));
        }
        for (int i = 0; i < 90; i++) {
            int one = i;
            answers.add(Check.outcome(() -> desk.stateOf(one)));
            answers.add(Check.outcome(() -> desk.claimsOf(one)));
        }
    }

    /**
     * The issues that are waited for come with the difference 4, which the stories have too: an earlier check-in
     * lost or won shows. No refused call is made here, as its fault would be the same at both desks.
     */
    private static void shiftsToCome(IssueDesk desk, List<Long> answers) {
        for (int issue = 0; issue < Math.min(desk.foretold(), 60); issue++) {
            int one = issue;
            int days = desk.dayOf(issue) + 4 - desk.day();
            if (days >= 0 && desk.stateOf(issue) == IssueDesk.WAITED) {
                if (days > 0) {
                    answers.add(Check.outcome(() -> desk.advance(days)));
                }
                answers.add(Check.outcome(() -> desk.checkIn(one, 0)));
                answers.add(Check.outcome(desk::shift));
            }
        }
    }
}
