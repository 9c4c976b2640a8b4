/** All promises: long runs of calls, each answer compared with the model's; the runs are the same each time. */
public final class ModelTest {
    private static final int RUNS = 3000;
    private static final int CALLS = 512;
    private static final int[] FAR = {Integer.MIN_VALUE, -1000, -1, 0, 1, 199, 200, 201, 4095, Integer.MAX_VALUE};

    private long seed;
    private final IssueDesk desk = new IssueDesk();
    private final DeskModel model = new DeskModel();
    private int calls = 0;
    /** How late issues come for a while, so that shifts come about. */
    private int lateness = 0;
    private static int shiftsSeen = 0;

    private ModelTest(long seed) {
        this.seed = seed;
    }

    public static void main(String[] args) {
        for (int run = 0; run < RUNS && Check.wrongSoFar() == 0; run++) {
            new ModelTest(run * 7919L + 13).go(run % 3);
        }
        Check.same("the runs hold many shifts", shiftsSeen > 1000, true);
        Check.end();
    }

    private int below(int bound) {
        seed = seed * 6364136223846793005L + 1442695040888963407L;
        return (int) ((seed >>> 33) % bound);
    }

    private int anyNumber() {
        return below(3) == 0 ? FAR[below(FAR.length)] : below(205) - 2;
    }

    private void go(int kind) {
        if (kind != 0) {
            pattern();
        }
        while (calls < CALLS && Check.wrongSoFar() == 0) {
            int what = below(20);
            if (what < 8) {
                comeInTurn();
            } else if (what < 14) {
                change();
            } else {
                ask();
            }
            if (kind == 2) {
                ask();
            }
        }
    }

    private void same(String what, Check.Call got, Check.Call due) {
        if (calls < CALLS) {
            calls++;
            Check.same(what + ", call " + calls, Check.outcome(got), Check.outcome(due));
        }
    }

    private void pattern() {
        int gap = below(8) == 0 ? anyNumber() : 1 + below(below(2) == 0 ? 90 : 30);
        int size = below(8) == 0 ? anyNumber() : 1 + below(20);
        boolean anew = below(2) == 0;
        int skipped = below(8) == 0 ? anyNumber() : below(3) == 0 ? below(4096) : below(2) << below(12);
        same("setPattern(" + gap + ", " + size + ", " + anew + ", " + skipped + ")",
            () -> { desk.setPattern(gap, size, anew, skipped); return 0; },
            () -> { model.setPattern(gap, size, anew, skipped); return 0; });
    }

    private void advance(int days) {
        same("advance(" + days + ")", () -> desk.advance(days), () -> model.advance(days));
    }

    private void checkIn(int issue, int bound) {
        int before = model.shift();
        same("checkIn(" + issue + ", " + bound + ")", () -> desk.checkIn(issue, bound),
            () -> model.checkIn(issue, bound));
        if (model.shift() != before) {
            shiftsSeen++;
        }
        same("shift()", desk::shift, model::shift);
    }

    /** The first issue that is waited for, or the next one, comes so late as those before it. */
    private void comeInTurn() {
        if (below(6) == 0) {
            lateness = below(3) == 0 ? below(40) - 20 : below(9) - 4;
        }
        int issue = 0;
        while (issue < model.foretold() && model.stateOf(issue) != 0) {
            issue++;
        }
        if (below(9) == 0) {
            issue++;
        }
        if (issue < model.foretold()) {
            int days = model.dayOf(issue) + lateness - model.day();
            if (days > 0 && days <= 400) {
                advance(days);
            }
        }
        checkIn(issue, below(3) == 0 ? below(6) : 0);
    }

    private void change() {
        int a = anyNumber();
        int b = anyNumber();
        switch (below(10)) {
            case 0 -> pattern();
            case 1 -> {
                int grace = below(4) == 0 ? a : below(30);
                int pause = below(4) == 0 ? b : 1 + below(20);
                same("setClaims(" + grace + ", " + pause + ")",
                    () -> { desk.setClaims(grace, pause); return 0; },
                    () -> { model.setClaims(grace, pause); return 0; });
            }
            case 2 -> advance(below(5) == 0 ? a : 1 + below(below(4) == 0 ? 120 : 20));
            case 3 -> checkIn(below(3) == 0 ? a : below(model.foretold() + 3), below(4) == 0 ? b : below(6));
            case 4, 5 -> {
                int issue = below(3) == 0 ? a : below(model.foretold() + 1);
                same("skip(" + issue + ")", () -> { desk.skip(issue); return 0; },
                    () -> { model.skip(issue); return 0; });
            }
            case 6, 7, 8 -> same("round()", desk::round, model::round);
            default -> {
                int last = below(2) == 0 ? b : a + below(10);
                same("give(" + a + ", " + last + ")", () -> desk.give(a, last), () -> model.give(a, last));
            }
        }
    }

    private void ask() {
        int a = below(2) == 0 ? anyNumber() : below(model.foretold() + 2);
        int b = anyNumber();
        boolean here = below(2) == 0;
        int k = below(3) == 0 ? a : below(30);
        switch (below(14)) {
            case 0 -> same("day()", desk::day, model::day);
            case 1 -> same("foretold()", desk::foretold, model::foretold);
            case 2 -> same("shift()", desk::shift, model::shift);
            case 3 -> same("dayOf(" + a + ")", () -> desk.dayOf(a), () -> model.dayOf(a));
            case 4 -> same("stateOf(" + a + ")", () -> desk.stateOf(a), () -> model.stateOf(a));
            case 5 -> same("claimsOf(" + a + ")", () -> desk.claimsOf(a), () -> model.claimsOf(a));
            case 6 -> same("labelOf(" + a + ")", () -> desk.labelOf(a), () -> model.labelOf(a));
            case 7 -> same("find(" + a + ", " + b + ")", () -> desk.find(a, b), () -> model.find(a, b));
            case 8 -> same("find(" + k + ", " + k + ")", () -> desk.find(k, k), () -> model.find(k, k));
            case 9 -> same("late()", desk::late, model::late);
            case 10 -> same("ranges()", desk::ranges, model::ranges);
            case 11 -> same("rangeAt(" + k + ")", () -> desk.rangeAt(k), () -> model.rangeAt(k));
            case 12 -> same("isHeld(" + a + ")", () -> desk.isHeld(a) ? 1 : 0, () -> model.isHeld(a) ? 1 : 0);
            default -> same("only(" + here + ", " + k + ")", () -> desk.only(here, k), () -> model.only(here, k));
        }
    }
}
