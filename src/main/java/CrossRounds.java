import java.util.ArrayList;

/**
 * Nets of a chip that disturb one another while they switch: spans of arrival, delay added by
 * the strongest sources in rounds, and noise that passes from net to net through a table.
 */
public final class CrossRounds {
    /** Answered where there is no such net, span or stage. */
    public static final int NONE = -1;

    private static final int MOST_NETS = 40;
    private static final int MOST_COUPLES = 120;
    private static final int MOST_STAGES = 80;
    private static final int MOST_ROUNDS = 50;
    private static final int MOST_KEPT = 8;
    private static final int KEPT_AT_FIRST = 4;
    private static final int GREATEST_TIME = 1000000;
    private static final int GREATEST_SLOPE = 10000;
    private static final int GREATEST_SHARE = 1000;
    private static final int GREATEST_DELAY = 100000;
    private static final int GREATEST_HEIGHT = 100000;
    private static final int GREATEST_THROUGH = 100000;

    private final ArrayList<Net> nets = new ArrayList<>();
    /** The same nets, each one behind all those that lead to it. */
    private final ArrayList<Net> flow = new ArrayList<>();
    private final Table table = new Table();
    private final int[] changes = new int[MOST_ROUNDS];
    private int roundsMade = 0;
    private int kept = KEPT_AT_FIRST;
    private int couples = 0;
    private int excludedPairs = 0;
    private int stages = 0;

    /** No nets, no rows of the table; four sources are kept. */
    public CrossRounds() {
    }

    /** A new net: its number. */
    public int net(int early, int late, int slope)
            throws IllegalArgumentException, IllegalStateException {
        requireWithin(late, 0, GREATEST_TIME);
        requireWithin(early, 0, late);
        requireWithin(slope, 0, GREATEST_SLOPE);
        requireRoom(nets.size(), MOST_NETS);
        Net made = new Net(nets.size(), early, late, slope);
        nets.add(made);
        flow.add(made);
        return made.number;
    }

    /** Two nets are coupled, or their share becomes another one: what it was, 0 without one. */
    public int couple(int a, int b, int share)
            throws IndexOutOfBoundsException, IllegalArgumentException, IllegalStateException {
        Net one = netAt(a);
        Net other = netAt(b);
        requireDifferent(a, b);
        requireWithin(share, 1, GREATEST_SHARE);
        int before = one.shareOf(other);
        if (before == 0) {
            requireRoom(couples, MOST_COUPLES);
            couples++;
        }
        one.join(other, share);
        other.join(one, share);
        return before;
    }

    /** Two nets are excluded from one another: whether they were not. */
    public boolean exclude(int a, int b)
            throws IndexOutOfBoundsException, IllegalArgumentException {
        Net one = netAt(a);
        Net other = netAt(b);
        requireDifferent(a, b);
        if (one.isExcludedFrom(other)) {
            return false;
        }
        one.excluded |= other.bit();
        other.excluded |= one.bit();
        excludedPairs++;
        return true;
    }

    /** A new stage: its number; NONE if a net would be led back to itself. */
    public int stage(int from, int to, int delay)
            throws IndexOutOfBoundsException, IllegalArgumentException, IllegalStateException {
        Net start = netAt(from);
        Net goal = netAt(to);
        requireDifferent(from, to);
        requireWithin(delay, 0, GREATEST_DELAY);
        requireRoom(stages, MOST_STAGES);
        if (start.isLedToBy(goal)) {
            return NONE;
        }
        goal.stagesToIt.add(new Stage(start, delay));
        spreadLeaders(start, goal);
        sortFlow();
        stages++;
        return stages - 1;
    }

    /** How many sources are kept from now on: how many were. */
    public int keep(int n) throws IllegalArgumentException {
        requireWithin(n, 1, MOST_KEPT);
        int before = kept;
        kept = n;
        return before;
    }

    /** A row of the table more, if its height is above the last one's: whether it is. */
    public boolean row(int height, int through)
            throws IllegalArgumentException, IllegalStateException {
        requireWithin(height, 0, GREATEST_HEIGHT);
        requireWithin(through, 0, GREATEST_THROUGH);
        requireRoom(table.size, Table.MOST_ROWS);
        return table.append(height, through);
    }

    /** Rounds, so many at most, from the widest or from the least: how many were made. */
    public int run(int rounds, boolean widest) throws IllegalArgumentException {
        requireWithin(rounds, 1, MOST_ROUNDS);
        for (int i = 0; i < nets.size(); i++) {
            Net each = nets.get(i);
            each.added = widest ? each.delayByAllSources(kept) : 0;
        }
        roundsMade = 0;
        boolean settled = false;
        while (roundsMade < rounds && !settled) {
            int changedNets = makeRound();
            changes[roundsMade] = changedNets;
            roundsMade++;
            settled = changedNets == 0;
        }
        workOutSpans();
        return roundsMade;
    }

    /** Where a net's span begins, by the latest run; NONE if that run did not see the net. */
    public int early(int net) throws IndexOutOfBoundsException {
        return netAt(net).begin;
    }

    /** Where a net's span ends, by the latest run; NONE if that run did not see the net. */
    public int late(int net) throws IndexOutOfBoundsException {
        return netAt(net).end;
    }

    /** What is added to a net, by the latest run; 0 before one. */
    public int added(int net) throws IndexOutOfBoundsException {
        return netAt(net).added;
    }

    /** How many nets' added became another one in round r, from 0, of the latest run. */
    public int changed(int r) throws IndexOutOfBoundsException {
        requirePlace(r, roundsMade);
        return changes[r];
    }

    /** The k-th strongest source of a net, from 0; NONE if it has not so many. */
    public int source(int net, int k) throws IndexOutOfBoundsException {
        Net victim = netAt(net);
        if (k < 0) {
            throw new IndexOutOfBoundsException("no such place");
        }
        return victim.numberOfSource(k);
    }

    /** The height of a net as things are. */
    public int height(int net) throws IndexOutOfBoundsException {
        return netAt(net).sumOfShares(kept);
    }

    /** The noise of a net as things are. */
    public int noise(int net) throws IndexOutOfBoundsException {
        Net asked = netAt(net);
        for (int i = 0; i < flow.size(); i++) {
            Net each = flow.get(i);
            each.workOutNoise(kept, table);
        }
        return asked.noise;
    }

    /** How many: 0 nets, 1 couples, 2 excluded pairs, 3 stages, 4 rows of the table. */
    public int count(int what) throws IndexOutOfBoundsException {
        switch (what) {
            case 0:
                return nets.size();
            case 1:
                return couples;
            case 2:
                return excludedPairs;
            case 3:
                return stages;
            case 4:
                return table.size;
            default:
                throw new IndexOutOfBoundsException("no such what");
        }
    }

    /** No nets, no rows, nothing run; four sources are kept. */
    public void clear() {
        nets.clear();
        flow.clear();
        table.size = 0;
        roundsMade = 0;
        kept = KEPT_AT_FIRST;
        couples = 0;
        excludedPairs = 0;
        stages = 0;
    }

    private Net netAt(int number) {
        requirePlace(number, nets.size());
        return nets.get(number);
    }

    private static void requirePlace(int place, int places) {
        if (place < 0 || place >= places) {
            throw new IndexOutOfBoundsException("no such place");
        }
    }

    private static void requireWithin(int number, int least, int greatest) {
        if (number < least || number > greatest) {
            throw new IllegalArgumentException("a number is out of its range");
        }
    }

    private static void requireDifferent(int a, int b) {
        if (a == b) {
            throw new IllegalArgumentException("two nets are the same");
        }
    }

    private static void requireRoom(int held, int most) {
        if (held >= most) {
            throw new IllegalStateException("there are as many as there can be");
        }
    }

    /** Whatever leads to start, and start itself, now leads to goal and to all that goal leads to. */
    private void spreadLeaders(Net start, Net goal) {
        long gained = start.leaders | start.bit();
        for (int i = 0; i < nets.size(); i++) {
            Net each = nets.get(i);
            if (each == goal || each.isLedToBy(goal)) {
                each.leaders |= gained;
            }
        }
    }

    /**
     * A net has all leaders of each of its leaders and that one too, so it has more of them:
     * by their count, no net comes before one that leads to it.
     */
    private void sortFlow() {
        for (int i = 1; i < flow.size(); i++) {
            Net moved = flow.get(i);
            int at = i;
            while (at > 0 && flow.get(at - 1).leaderCount() > moved.leaderCount()) {
                flow.set(at, flow.get(at - 1));
                at--;
            }
            flow.set(at, moved);
        }
    }

    private void workOutSpans() {
        for (int i = 0; i < flow.size(); i++) {
            Net each = flow.get(i);
            each.workOutSpan();
        }
    }

    /** The spans stay as they are while each added is replaced, so no net sees a newer one. */
    private int makeRound() {
        workOutSpans();
        int changedNets = 0;
        for (int i = 0; i < nets.size(); i++) {
            Net each = nets.get(i);
            int next = each.delayByMeetingSources(kept);
            if (next != each.added) {
                each.added = next;
                changedNets++;
            }
        }
        return changedNets;
    }

    /** A net that another one is coupled with, as it disturbs that one. */
    private static final class Source {
        final Net net;
        final int share;

        Source(Net net, int share) {
            this.net = net;
            this.share = share;
        }

        int strength() {
            return share * net.slope;
        }

        int delay() {
            return strength() / 1000;
        }

        boolean isStrongerThan(Source other) {
            if (strength() != other.strength()) {
                return strength() > other.strength();
            }
            if (share != other.share) {
                return share > other.share;
            }
            return net.number < other.net.number;
        }
    }

    /** A way to a net, kept with the net that it leads to. */
    private static final class Stage {
        final Net from;
        final int delay;

        Stage(Net from, int delay) {
            this.from = from;
            this.delay = delay;
        }
    }

    private static final class Net {
        final int number;
        final int earliest;
        final int latest;
        final int slope;
        /** All nets that this one is coupled with, excluded ones too, the strongest first. */
        final ArrayList<Source> coupled = new ArrayList<>();
        final ArrayList<Stage> stagesToIt = new ArrayList<>();
        /** Nets that this one is excluded from, a bit for each. */
        long excluded = 0;
        /** Nets that lead to this one, over however many stages, a bit for each. */
        long leaders = 0;
        int begin = NONE;
        int end = NONE;
        int added = 0;
        int noise = 0;

        Net(int number, int earliest, int latest, int slope) {
            this.number = number;
            this.earliest = earliest;
            this.latest = latest;
            this.slope = slope;
        }

        long bit() {
            return 1L << number;
        }

        boolean isExcludedFrom(Net other) {
            return (excluded & other.bit()) != 0;
        }

        boolean isLedToBy(Net other) {
            return (leaders & other.bit()) != 0;
        }

        int leaderCount() {
            return Long.bitCount(leaders);
        }

        boolean meets(Net other) {
            return begin <= other.end && other.begin <= end;
        }

        private int placeOf(Net other) {
            for (int i = 0; i < coupled.size(); i++) {
                if (coupled.get(i).net == other) {
                    return i;
                }
            }
            return NONE;
        }

        int shareOf(Net other) {
            int place = placeOf(other);
            return place == NONE ? 0 : coupled.get(place).share;
        }

        void join(Net other, int share) {
            int old = placeOf(other);
            if (old != NONE) {
                coupled.remove(old);
            }
            Source joined = new Source(other, share);
            int place = 0;
            while (place < coupled.size() && coupled.get(place).isStrongerThan(joined)) {
                place++;
            }
            coupled.add(place, joined);
        }

        int numberOfSource(int k) {
            int seen = 0;
            for (int i = 0; i < coupled.size(); i++) {
                Source each = coupled.get(i);
                if (!isExcludedFrom(each.net)) {
                    if (seen == k) {
                        return each.net.number;
                    }
                    seen++;
                }
            }
            return NONE;
        }

        int sumOfShares(int kept) {
            int sum = 0;
            int taken = 0;
            for (int i = 0; i < coupled.size() && taken < kept; i++) {
                Source each = coupled.get(i);
                if (!isExcludedFrom(each.net)) {
                    sum += each.share;
                    taken++;
                }
            }
            return sum;
        }

        int delayByAllSources(int kept) {
            return sumOfDelays(kept, false);
        }

        int delayByMeetingSources(int kept) {
            return sumOfDelays(kept, true);
        }

        private int sumOfDelays(int kept, boolean meetingOnly) {
            int sum = 0;
            int taken = 0;
            for (int i = 0; i < coupled.size() && taken < kept; i++) {
                Source each = coupled.get(i);
                if (!isExcludedFrom(each.net) && (!meetingOnly || meets(each.net))) {
                    sum += each.delay();
                    taken++;
                }
            }
            return sum;
        }

        /** The spans of the nets that lead here must have been worked out before. */
        void workOutSpan() {
            if (stagesToIt.isEmpty()) {
                begin = earliest;
                end = latest + added;
                return;
            }
            int least = Integer.MAX_VALUE;
            int greatest = 0;
            for (int i = 0; i < stagesToIt.size(); i++) {
                Stage each = stagesToIt.get(i);
                least = Math.min(least, each.from.begin + each.delay);
                greatest = Math.max(greatest, each.from.end + each.delay);
            }
            begin = least;
            end = greatest + added;
        }

        /** The noise of the nets that lead here must have been worked out before. */
        void workOutNoise(int kept, Table table) {
            int greatest = 0;
            for (int i = 0; i < stagesToIt.size(); i++) {
                Stage each = stagesToIt.get(i);
                greatest = Math.max(greatest, table.throughOf(each.from.noise));
            }
            noise = sumOfShares(kept) + greatest;
        }
    }

    /** Rows of heights that rise, and what comes through from each height on. */
    private static final class Table {
        static final int MOST_ROWS = 20;

        final int[] heights = new int[MOST_ROWS];
        final int[] throughs = new int[MOST_ROWS];
        int size = 0;

        boolean append(int height, int through) {
            if (size >= MOST_ROWS || size > 0 && height <= heights[size - 1]) {
                return false;
            }
            heights[size] = height;
            throughs[size] = through;
            size++;
            return true;
        }

        int throughOf(int number) {
            for (int i = size - 1; i >= 0; i--) {
                if (heights[i] <= number) {
                    return throughs[i];
                }
            }
            return 0;
        }
    }
}
