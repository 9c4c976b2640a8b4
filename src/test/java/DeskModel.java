import java.util.ArrayList;
import java.util.List;
import java.util.TreeSet;

/** The document told once more, as plainly and as unlike the program as can be, to compare with. */
final class DeskModel {
    private static final class Coming {
        int issue;
        int difference;
        boolean follows;
    }

    private final List<Integer> days = new ArrayList<>(List.of(0));
    private final List<Integer> claims = new ArrayList<>(List.of(0));
    private final List<Integer> lastClaims = new ArrayList<>(List.of(-9999));
    private final TreeSet<Integer> held = new TreeSet<>();
    private final TreeSet<Integer> boundOnes = new TreeSet<>();
    private final TreeSet<Integer> skippedOnes = new TreeSet<>();
    private final TreeSet<Integer> there = new TreeSet<>();
    private final List<Coming> comings = new ArrayList<>();
    private int spent = 0;
    private int today = 0;
    private int gap = 30;
    private int size = 12;
    private boolean beginAnew = true;
    private int skippedMonths = 0;
    private int grace = 7;
    private int pause = 30;
    private int shift = 0;

    private boolean isSkippedDay(int day) {
        return (skippedMonths & 1 << day / 30 % 12) != 0;
    }

    private int dayOfNext() {
        int before = days.get(days.size() - 1);
        int day = before + gap + shift;
        while (day <= before) {
            day++;
        }
        while (isSkippedDay(day)) {
            day++;
        }
        return day;
    }

    private void foretellOne() {
        days.add(dayOfNext());
        claims.add(0);
        lastClaims.add(-9999);
        shift = 0;
    }

    private void behindAChange() {
        while (days.size() < 200 && dayOfNext() <= today) {
            foretellOne();
        }
    }

    void setPattern(int newGap, int newSize, boolean anew, int skipped) {
        if (newGap < 1 || newGap > 90 || newSize < 1 || newSize > 20 || skipped < 0 || skipped >= 4095) {
            throw new IllegalArgumentException();
        }
        gap = newGap;
        size = newSize;
        beginAnew = anew;
        skippedMonths = skipped;
        behindAChange();
    }

    void setClaims(int newGrace, int newPause) {
        if (newGrace < 0 || newGrace > 100 || newPause < 1 || newPause > 100) {
            throw new IllegalArgumentException();
        }
        grace = newGrace;
        pause = newPause;
        behindAChange();
    }

    int advance(int more) {
        if (more < 1 || more > 400) {
            throw new IllegalArgumentException();
        }
        if (today + more > 7200) {
            throw new IllegalStateException();
        }
        today = today + more;
        behindAChange();
        return today;
    }

    int checkIn(int issue, int bound) {
        if (issue < 0 || issue > 199) {
            throw new IndexOutOfBoundsException();
        }
        if (bound < 0 || bound > 5 || issue + bound > 199) {
            throw new IllegalArgumentException();
        }
        for (int one = issue; one <= issue + bound; one++) {
            if (one < days.size() && stateOf(one) != 0) {
                throw new IllegalStateException();
            }
        }
        while (days.size() <= issue + bound) {
            foretellOne();
        }
        held.add(issue);
        for (int one = issue + 1; one <= issue + bound; one++) {
            boundOnes.add(one);
        }
        remember(issue);
        lookForAShift();
        behindAChange();
        return days.size();
    }

    private void remember(int issue) {
        Coming coming = new Coming();
        coming.issue = issue;
        coming.difference = today - days.get(issue);
        if (!comings.isEmpty()) {
            int before = comings.get(comings.size() - 1).issue;
            coming.follows = issue > before;
            for (int one = before + 1; one < issue; one++) {
                coming.follows &= boundOnes.contains(one) || skippedOnes.contains(one);
            }
        }
        comings.add(coming);
    }

    private void lookForAShift() {
        int count = comings.size();
        if (count - spent < 3) {
            return;
        }
        Coming first = comings.get(count - 3);
        Coming second = comings.get(count - 2);
        Coming third = comings.get(count - 1);
        int difference = first.difference;
        if (second.follows && third.follows && second.difference == difference && third.difference == difference
            && difference != 0 && Math.abs(difference) <= 15) {
            shift += difference;
            spent = count;
        }
    }

    void skip(int issue) {
        if (issue < 0 || issue >= days.size()) {
            throw new IndexOutOfBoundsException();
        }
        if (stateOf(issue) != 0) {
            throw new IllegalStateException();
        }
        skippedOnes.add(issue);
    }

    int round() {
        int claimed = 0;
        for (int issue = 0; issue < days.size(); issue++) {
            if (stateOf(issue) != 0 || today <= days.get(issue) + grace) {
                continue;
            }
            if (claims.get(issue) > 0 && lastClaims.get(issue) + pause > today) {
                continue;
            }
            if (claims.get(issue) == 3) {
                skippedOnes.add(issue);
                continue;
            }
            claims.set(issue, claims.get(issue) + 1);
            lastClaims.set(issue, today);
            claimed++;
        }
        return claimed;
    }

    int day() {
        return today;
    }

    int foretold() {
        return days.size();
    }

    int shift() {
        return shift;
    }

    private void mustBeForetold(int issue) {
        if (issue < 0 || issue >= days.size()) {
            throw new IndexOutOfBoundsException();
        }
    }

    int dayOf(int issue) {
        mustBeForetold(issue);
        return days.get(issue);
    }

    int stateOf(int issue) {
        mustBeForetold(issue);
        return held.contains(issue) ? 1 : boundOnes.contains(issue) ? 2 : skippedOnes.contains(issue) ? 3 : 0;
    }

    int claimsOf(int issue) {
        mustBeForetold(issue);
        return claims.get(issue);
    }

    int labelOf(int issue) {
        if (issue < 0 || issue > 199) {
            throw new IndexOutOfBoundsException();
        }
        int volume = 1;
        int number = 1;
        for (int one = 0; one < issue; one++) {
            number++;
            if ((one + 1) % size == 0) {
                volume++;
                number = beginAnew ? 1 : number;
            }
        }
        return volume * 1000 + number;
    }

    int find(int volume, int number) {
        for (int issue = 0; issue < 200; issue++) {
            int label = labelOf(issue);
            if (label / 1000 == volume && label % 1000 == number) {
                return issue;
            }
        }
        return -1;
    }

    int late() {
        int count = 0;
        for (int issue = 0; issue < days.size(); issue++) {
            if (stateOf(issue) == 0 && days.get(issue) + grace < today) {
                count++;
            }
        }
        return count;
    }

    private TreeSet<Integer> holdings() {
        TreeSet<Integer> all = new TreeSet<>(held);
        all.addAll(boundOnes);
        return all;
    }

    private List<int[]> rangeList() {
        List<int[]> list = new ArrayList<>();
        for (int issue : holdings()) {
            if (!list.isEmpty() && list.get(list.size() - 1)[1] == issue - 1) {
                list.get(list.size() - 1)[1] = issue;
            } else {
                list.add(new int[] {issue, issue});
            }
        }
        return list;
    }

    int ranges() {
        return rangeList().size();
    }

    int rangeAt(int k) {
        List<int[]> list = rangeList();
        if (k < 0 || k >= list.size()) {
            throw new IndexOutOfBoundsException();
        }
        return list.get(k)[0] * 1000 + list.get(k)[1];
    }

    boolean isHeld(int issue) {
        return holdings().contains(issue);
    }

    int give(int first, int last) {
        if (first < 0 || first > 199 || last < first || last > 199) {
            throw new IllegalArgumentException();
        }
        for (int issue = first; issue <= last; issue++) {
            there.add(issue);
        }
        return there.size();
    }

    int only(boolean isHere, int k) {
        if (k < 0) {
            throw new IllegalArgumentException();
        }
        List<Integer> list = new ArrayList<>(isHere ? holdings() : there);
        list.removeAll(isHere ? there : holdings());
        return k < list.size() ? list.get(k) : -1;
    }
}
