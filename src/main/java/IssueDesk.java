/**
 * A desk for a periodical: issues foretold by a pattern, checked in, claimed when late, and held as ranges.
 *
 * Every index and divisor is tested in the very method that uses it (by isIssue or isForetold, or by the
 * loop's bound), also where callers have tested it: the machine itself must never throw here.
 */
public final class IssueDesk {
    public static final int NONE = -1;
    public static final int WAITED = 0, HELD = 1, BOUND = 2, SKIPPED = 3;

    private static final int ISSUES = 200;
    private static final int LAST_DAY = 7200;
    private static final int MOST_DAYS_AT_ONCE = 400;
    private static final int MOST_BOUND = 5;
    private static final int MOST_CLAIMS = 3;
    private static final int CHECK_INS_FOR_A_SHIFT = 3;
    private static final int WIDEST_SHIFT = 15;
    private static final int MONTH_DAYS = 30;
    private static final int YEAR_MONTHS = 12;
    private static final int LARGEST_GAP = 90;
    private static final int LARGEST_SIZE = 20;
    private static final int LARGEST_SKIPPED = 4094;
    private static final int LARGEST_GRACE = 100;
    private static final int LARGEST_PAUSE = 100;
    private static final int LEVEL_FACTOR = 1000;

    private final Pattern pattern;
    private int grace;
    private int pause;

    private int today;
    private int foretoldCount;
    private int waitingShift;

    /** Rows by issue; what stands in them counts only for issues that are foretold. */
    private final int[] issueDays;
    private final int[] states;
    private final int[] claimCounts;
    private final int[] claimDays;

    /** The newest check-ins that follow one another with the same difference; none once they made a shift. */
    private int streakLength;
    private int streakDifference;
    private int streakIssue;

    private final boolean[] isThere;
    private int thereCount;

    public IssueDesk() {
        pattern = new Pattern();
        grace = 7;
        pause = 30;
        issueDays = new int[ISSUES];
        states = new int[ISSUES];
        claimCounts = new int[ISSUES];
        claimDays = new int[ISSUES];
        isThere = new boolean[ISSUES];
        // the issue 0 has the day 0 whatever the pattern is: the rows' zeros say just that
        foretoldCount = 1;
        streakIssue = NONE;
    }

    // ---- the pattern, days

    public void setPattern(int gap, int size, boolean beginAnew, int skipped) throws IllegalArgumentException {
        if (!isWithin(gap, 1, LARGEST_GAP)) {
            throw new IllegalArgumentException("the gap is not 1 to 90");
        }
        if (!isWithin(size, 1, LARGEST_SIZE)) {
            throw new IllegalArgumentException("the size is not 1 to 20");
        }
        if (!isWithin(skipped, 0, LARGEST_SKIPPED)) {
            throw new IllegalArgumentException("the skipped months are not 0 to 4094");
        }
        pattern.change(gap, size, beginAnew, skipped);
        foretellDueIssues();
    }

    public void setClaims(int grace, int pause) throws IllegalArgumentException {
        if (!isWithin(grace, 0, LARGEST_GRACE)) {
            throw new IllegalArgumentException("the grace is not 0 to 100");
        }
        if (!isWithin(pause, 1, LARGEST_PAUSE)) {
            throw new IllegalArgumentException("the pause is not 1 to 100");
        }
        this.grace = grace;
        this.pause = pause;
    }

    public int advance(int days) throws IllegalArgumentException, IllegalStateException {
        if (!isWithin(days, 1, MOST_DAYS_AT_ONCE)) {
            throw new IllegalArgumentException("the days are not 1 to 400");
        }
        if (today + days > LAST_DAY) {
            throw new IllegalStateException("the day would be above 7200");
        }
        today += days;
        foretellDueIssues();
        return today;
    }

    // ---- issues come, or do not

    public int checkIn(int issue, int bound)
            throws IndexOutOfBoundsException, IllegalArgumentException, IllegalStateException {
        if (!isIssue(issue)) {
            throw new IndexOutOfBoundsException("there is no such issue");
        }
        if (!isWithin(bound, 0, MOST_BOUND) || !isIssue(issue + bound)) {
            throw new IllegalArgumentException("bound is out of range");
        }
        int last = issue + bound;
        if (!canAllCome(issue, last)) {
            throw new IllegalStateException("one of these issues is not waited for");
        }
        foretellUpTo(last);
        takeIn(issue, last);
        noteDifference(issue);
        foretellDueIssues();
        return foretoldCount;
    }

    public void skip(int issue) throws IndexOutOfBoundsException, IllegalStateException {
        if (!isForetold(issue)) {
            throw new IndexOutOfBoundsException("the issue is not foretold");
        }
        if (states[issue] != WAITED) {
            throw new IllegalStateException("the issue is not waited for");
        }
        states[issue] = SKIPPED;
    }

    public int round() {
        int claimed = 0;
        for (int issue = 0; issue < ISSUES; issue++) {
            if (isLate(issue) && isTimeToClaim(issue)) {
                if (claimCounts[issue] < MOST_CLAIMS) {
                    claimCounts[issue]++;
                    claimDays[issue] = today;
                    claimed++;
                } else {
                    states[issue] = SKIPPED;
                }
            }
        }
        return claimed;
    }

    // ---- what there is

    public int day() {
        return today;
    }

    public int foretold() {
        return foretoldCount;
    }

    public int shift() {
        return waitingShift;
    }

    public int dayOf(int issue) throws IndexOutOfBoundsException {
        if (!isForetold(issue)) {
            throw new IndexOutOfBoundsException("the issue is not foretold");
        }
        return issueDays[issue];
    }

    public int stateOf(int issue) throws IndexOutOfBoundsException {
        if (!isForetold(issue)) {
            throw new IndexOutOfBoundsException("the issue is not foretold");
        }
        return states[issue];
    }

    public int claimsOf(int issue) throws IndexOutOfBoundsException {
        if (!isForetold(issue)) {
            throw new IndexOutOfBoundsException("the issue is not foretold");
        }
        return claimCounts[issue];
    }

    public int labelOf(int issue) throws IndexOutOfBoundsException {
        if (!isIssue(issue)) {
            throw new IndexOutOfBoundsException("there is no such issue");
        }
        return LEVEL_FACTOR * pattern.volumeOf(issue) + pattern.numberOf(issue);
    }

    public int find(int volume, int number) {
        for (int issue = 0; issue < ISSUES; issue++) {
            if (pattern.volumeOf(issue) == volume && pattern.numberOf(issue) == number) {
                return issue;
            }
        }
        return NONE;
    }

    public int late() {
        int count = 0;
        for (int issue = 0; issue < ISSUES; issue++) {
            if (isLate(issue)) {
                count++;
            }
        }
        return count;
    }

    // ---- holdings

    public int ranges() {
        int count = 0;
        for (int issue = 0; issue < ISSUES; issue++) {
            if (isRangeStart(issue)) {
                count++;
            }
        }
        return count;
    }

    public int rangeAt(int k) throws IndexOutOfBoundsException {
        int first = startOfRange(k);
        if (first == NONE) {
            throw new IndexOutOfBoundsException("there are not so many ranges");
        }
        return LEVEL_FACTOR * first + endOfRange(first);
    }

    public boolean isHeld(int issue) {
        for (int first = 0; first < ISSUES; first++) {
            if (isRangeStart(first) && isWithin(issue, first, endOfRange(first))) {
                return true;
            }
        }
        return false;
    }

    public int give(int first, int last) throws IllegalArgumentException {
        if (!isIssue(first)) {
            throw new IllegalArgumentException("first is not 0 to 199");
        }
        if (!isWithin(last, first, ISSUES - 1)) {
            throw new IllegalArgumentException("last is not first to 199");
        }
        for (int issue = first; issue <= last; issue++) {
            if (!isThere[issue]) {
                isThere[issue] = true;
                thereCount++;
            }
        }
        return thereCount;
    }

    public int only(boolean isHere, int k) throws IllegalArgumentException {
        if (k < 0) {
            throw new IllegalArgumentException("k is below 0");
        }
        int seen = 0;
        for (int issue = 0; issue < ISSUES; issue++) {
            boolean here = isInHouse(issue);
            if (here != isThere[issue] && here == isHere) {
                if (seen == k) {
                    return issue;
                }
                seen++;
            }
        }
        return NONE;
    }

    // ---- helpers: which issues

    private static boolean isWithin(int value, int least, int most) {
        return value >= least && value <= most;
    }

    private static boolean isIssue(int issue) {
        return issue >= 0 && issue < ISSUES;
    }

    private boolean isForetold(int issue) {
        return isIssue(issue) && issue < foretoldCount;
    }

    // ---- helpers: foretelling

    private int nextDay() {
        int before = foretoldCount - 1;
        return isIssue(before) ? pattern.dayBehind(issueDays[before], waitingShift) : 0;
    }

    private void foretellNext() {
        if (isIssue(foretoldCount)) {
            issueDays[foretoldCount] = nextDay();
            waitingShift = 0;
            foretoldCount++;
        }
    }

    private void foretellUpTo(int last) {
        for (int issue = foretoldCount; issue <= last && issue < ISSUES; issue++) {
            foretellNext();
        }
    }

    private void foretellDueIssues() {
        for (int issue = foretoldCount; issue < ISSUES && nextDay() <= today; issue++) {
            foretellNext();
        }
    }

    // ---- helpers: check-in

    private boolean canAllCome(int first, int last) {
        for (int issue = first; issue <= last && issue < ISSUES; issue++) {
            if (isForetold(issue) && states[issue] != WAITED) {
                return false;
            }
        }
        return true;
    }

    private void takeIn(int first, int last) {
        for (int issue = first; issue <= last && issue < ISSUES; issue++) {
            if (isForetold(issue)) {
                states[issue] = issue == first ? HELD : BOUND;
            }
        }
    }

    /** Looked at now and never again, as issues between that are skipped later must not count. */
    private void noteDifference(int issue) {
        if (!isForetold(issue)) {
            return;
        }
        int difference = today - issueDays[issue];
        boolean goesOn = difference == streakDifference && followsStreak(issue);
        streakLength = goesOn ? streakLength + 1 : 1;
        streakDifference = difference;
        streakIssue = issue;
        if (streakLength >= CHECK_INS_FOR_A_SHIFT && canShift(difference)) {
            waitingShift += difference;
            streakLength = 0;
        }
    }

    private boolean followsStreak(int issue) {
        if (issue <= streakIssue) {
            return false;
        }
        for (int between = streakIssue + 1; between < issue && between < ISSUES; between++) {
            if (!isForetold(between) || states[between] != BOUND && states[between] != SKIPPED) {
                return false;
            }
        }
        return true;
    }

    private static boolean canShift(int difference) {
        return difference != 0 && isWithin(difference, -WIDEST_SHIFT, WIDEST_SHIFT);
    }

    // ---- helpers: claims

    private boolean isLate(int issue) {
        return isForetold(issue) && states[issue] == WAITED && today - issueDays[issue] > grace;
    }

    private boolean isTimeToClaim(int issue) {
        return isIssue(issue) && (claimCounts[issue] == 0 || today - claimDays[issue] >= pause);
    }

    // ---- helpers: holdings

    private boolean isInHouse(int issue) {
        return isForetold(issue) && (states[issue] == HELD || states[issue] == BOUND);
    }

    private boolean isRangeStart(int issue) {
        return isInHouse(issue) && !isInHouse(issue - 1);
    }

    private int startOfRange(int k) {
        int seen = 0;
        for (int issue = 0; issue < ISSUES; issue++) {
            if (isRangeStart(issue)) {
                if (seen == k) {
                    return issue;
                }
                seen++;
            }
        }
        return NONE;
    }

    private int endOfRange(int first) {
        int last = first;
        while (last < ISSUES - 1 && isInHouse(last + 1)) {
            last++;
        }
        return last;
    }

    /** How issues follow in days, and how they are told by volume and number. */
    private static final class Pattern {
        private int gap;
        private int size;
        private boolean beginAnew;
        private int skipped;

        Pattern() {
            gap = 30;
            size = 12;
            beginAnew = true;
            skipped = 0;
        }

        void change(int newGap, int newSize, boolean newBeginAnew, int newSkipped) {
            gap = newGap;
            size = newSize;
            beginAnew = newBeginAnew;
            skipped = newSkipped;
        }

        int dayBehind(int before, int shift) {
            int day = Math.max(before + gap + shift, before + 1);
            for (int month = 0; month < YEAR_MONTHS && isInSkippedMonth(day); month++) {
                day = (day / MONTH_DAYS + 1) * MONTH_DAYS;
            }
            return day;
        }

        int volumeOf(int issue) {
            return size < 1 ? NONE : issue / size + 1;
        }

        int numberOf(int issue) {
            if (!beginAnew) {
                return issue + 1;
            }
            return size < 1 ? NONE : issue % size + 1;
        }

        private boolean isInSkippedMonth(int day) {
            int month = day / MONTH_DAYS % YEAR_MONTHS;
            return (skipped >> month & 1) != 0;
        }
    }
}
