import java.util.ArrayList;
import java.util.Arrays;
import java.util.List;

/**
 * The document once more, written another way than the program: square tables, sources sorted
 * at each question, spans and noise by passes over all stages until nothing moves.
 */
final class PlainModel {
    private final List<int[]> nets = new ArrayList<>();
    private final List<int[]> stages = new ArrayList<>();
    private final List<int[]> rows = new ArrayList<>();
    private final List<Integer> changed = new ArrayList<>();
    private final int[][] share = new int[40][40];
    private final boolean[][] excluded = new boolean[40][40];
    private final long[] added = new long[40];
    private long[] begins = new long[0];
    private long[] ends = new long[0];
    private int kept = 4;

    private void place(boolean is) {
        if (!is) {
            throw new IndexOutOfBoundsException();
        }
    }

    private void argument(boolean is) {
        if (!is) {
            throw new IllegalArgumentException();
        }
    }

    private void state(boolean is) {
        if (!is) {
            throw new IllegalStateException();
        }
    }

    private boolean isNet(int net) {
        return net >= 0 && net < nets.size();
    }

    long net(int early, int late, int slope) {
        argument(0 <= early && early <= late && late <= 1000000 && slope >= 0 && slope <= 10000);
        state(nets.size() < 40);
        nets.add(new int[] {early, late, slope});
        return nets.size() - 1;
    }

    long couple(int a, int b, int newShare) {
        place(isNet(a) && isNet(b));
        argument(a != b && newShare >= 1 && newShare <= 1000);
        int old = share[a][b];
        state(old > 0 || count(1) < 120);
        share[a][b] = newShare;
        share[b][a] = newShare;
        return old;
    }

    long exclude(int a, int b) {
        place(isNet(a) && isNet(b));
        argument(a != b);
        boolean was = excluded[a][b];
        excluded[a][b] = true;
        excluded[b][a] = true;
        return was ? 0 : 1;
    }

    long stage(int from, int to, int delay) {
        place(isNet(from) && isNet(to));
        argument(from != to && delay >= 0 && delay <= 100000);
        state(stages.size() < 80);
        boolean[] reached = new boolean[40];
        reached[to] = true;
        for (int pass = 0; pass < 40; pass++) {
            for (int[] stage : stages) {
                reached[stage[1]] |= reached[stage[0]];
            }
        }
        if (reached[from]) {
            return -1;
        }
        stages.add(new int[] {from, to, delay});
        return stages.size() - 1;
    }

    long keep(int n) {
        argument(n >= 1 && n <= 8);
        int old = kept;
        kept = n;
        return old;
    }

    long row(int height, int through) {
        argument(height >= 0 && height <= 100000 && through >= 0 && through <= 100000);
        state(rows.size() < 20);
        if (!rows.isEmpty() && rows.get(rows.size() - 1)[0] >= height) {
            return 0;
        }
        rows.add(new int[] {height, through});
        return 1;
    }

    private List<Integer> sources(int net) {
        List<Integer> found = new ArrayList<>();
        for (int other = 0; other < nets.size(); other++) {
            if (share[net][other] > 0 && !excluded[net][other]) {
                found.add(other);
            }
        }
        found.sort((p, q) -> {
            int byStrength = Long.compare(strength(net, q), strength(net, p));
            int byShare = Integer.compare(share[net][q], share[net][p]);
            return byStrength != 0 ? byStrength : byShare != 0 ? byShare : Integer.compare(p, q);
        });
        return found;
    }

    private long strength(int net, int source) {
        return (long) share[net][source] * nets.get(source)[2];
    }

    private long sumAdded(int net, boolean whateverSpans) {
        List<Integer> counting = sources(net);
        if (!whateverSpans) {
            counting.removeIf(s -> Math.max(begins[s], begins[net]) > Math.min(ends[s], ends[net]));
        }
        return counting.stream().limit(kept).mapToLong(s -> strength(net, s) / 1000).sum();
    }

    private void workOutSpans() {
        int size = nets.size();
        begins = new long[size];
        ends = new long[size];
        for (int pass = 0; pass <= size; pass++) {
            for (int net = 0; net < size; net++) {
                long begin = Long.MAX_VALUE;
                long end = Long.MIN_VALUE;
                for (int[] stage : stages) {
                    if (stage[1] == net) {
                        begin = Math.min(begin, begins[stage[0]] + stage[2]);
                        end = Math.max(end, ends[stage[0]] + stage[2] + added[net]);
                    }
                }
                boolean led = begin != Long.MAX_VALUE;
                begins[net] = led ? begin : nets.get(net)[0];
                ends[net] = led ? end : nets.get(net)[1] + added[net];
            }
        }
    }

    long run(int rounds, boolean widest) {
        argument(rounds >= 1 && rounds <= 50);
        for (int net = 0; net < nets.size(); net++) {
            added[net] = widest ? sumAdded(net, true) : 0;
        }
        changed.clear();
        while (changed.size() < rounds && (changed.isEmpty() || changed.get(changed.size() - 1) > 0)) {
            workOutSpans();
            long[] next = new long[40];
            int changes = 0;
            for (int net = 0; net < nets.size(); net++) {
                next[net] = sumAdded(net, false);
                changes += next[net] != added[net] ? 1 : 0;
            }
            System.arraycopy(next, 0, added, 0, 40);
            changed.add(changes);
        }
        workOutSpans();
        return changed.size();
    }

    long early(int net) {
        place(isNet(net));
        return net < begins.length ? begins[net] : -1;
    }

    long late(int net) {
        place(isNet(net));
        return net < ends.length ? ends[net] : -1;
    }

    long added(int net) {
        place(isNet(net));
        return added[net];
    }

    long changed(int r) {
        place(r >= 0 && r < changed.size());
        return changed.get(r);
    }

    long source(int net, int k) {
        place(isNet(net) && k >= 0);
        List<Integer> found = sources(net);
        return k < found.size() ? found.get(k) : -1;
    }

    long height(int net) {
        place(isNet(net));
        return sources(net).stream().limit(kept).mapToLong(s -> share[net][s]).sum();
    }

    long noise(int net) {
        place(isNet(net));
        long[] noise = new long[nets.size()];
        for (int pass = 0; pass <= nets.size(); pass++) {
            for (int each = 0; each < nets.size(); each++) {
                long most = 0;
                for (int[] stage : stages) {
                    most = stage[1] == each ? Math.max(most, through(noise[stage[0]])) : most;
                }
                noise[each] = height(each) + most;
            }
        }
        return noise[net];
    }

    private long through(long number) {
        long last = 0;
        for (int[] row : rows) {
            last = row[0] <= number ? row[1] : last;
        }
        return last;
    }

    long count(int what) {
        place(what >= 0 && what <= 4);
        long pairs = 0;
        for (int a = 0; a < 40; a++) {
            for (int b = 0; b < a; b++) {
                pairs += what == 1 && share[a][b] > 0 || what == 2 && excluded[a][b] ? 1 : 0;
            }
        }
        return what == 0 ? nets.size() : what == 3 ? stages.size() : what == 4 ? rows.size() : pairs;
    }

    void clear() {
        nets.clear();
        stages.clear();
        rows.clear();
        changed.clear();
        for (int net = 0; net < 40; net++) {
            Arrays.fill(share[net], 0);
            Arrays.fill(excluded[net], false);
        }
        Arrays.fill(added, 0);
        begins = new long[0];
        ends = new long[0];
        kept = 4;
    }
}
