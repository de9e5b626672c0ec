import java.util.Random;

/** All promises together: long runs of mixed calls, each answer against the plain model. */
public final class ModelTest {
    private static final int RUNS = 400;
    private static final int CALLS = 512;
    private static final long THREW_INDEX = -1001;
    private static final long THREW_ARGUMENT = -1002;
    private static final long THREW_STATE = -1003;
    private static final long THREW_OTHER = -1004;

    private interface Answer {
        long get();
    }

    private final Random random;
    private final CrossRounds x = new CrossRounds();
    private final PlainModel model = new PlainModel();
    private final int seed;
    private final int netsAimedAt;
    private final int timeScale;
    private final boolean clears;

    private ModelTest(int seed) {
        this.seed = seed;
        random = new Random(seed);
        netsAimedAt = seed % 4 == 0 ? 41 : 3 + random.nextInt(15);
        timeScale = seed % 3 == 0 ? 1000000 : seed % 3 == 1 ? 5000 : 100;
        clears = seed % 5 == 0;
    }

    public static void main(String[] args) {
        for (int seed = 0; seed < RUNS; seed++) {
            new ModelTest(seed).makeCalls();
        }
        Check.end();
    }

    private static long answer(Answer call) {
        try {
            return call.get();
        } catch (IndexOutOfBoundsException e) {
            return THREW_INDEX;
        } catch (IllegalArgumentException e) {
            return THREW_ARGUMENT;
        } catch (IllegalStateException e) {
            return THREW_STATE;
        } catch (RuntimeException e) {
            return THREW_OTHER;
        }
    }

    private void both(String call, Answer due, Answer got) {
        Check.same("seed " + seed + ": " + call, answer(due), answer(got));
    }

    private int upTo(int most) {
        return random.nextInt(most + 1);
    }

    /** Mostly a number from least to greatest; now and then an edge, or one beyond. */
    private int near(int least, int greatest) {
        switch (random.nextInt(40)) {
            case 0:
                return least - 1;
            case 1:
                return greatest + 1;
            case 2:
                return least;
            case 3:
                return greatest;
            default:
                return least + upTo(greatest - least);
        }
    }

    private int anyNet() {
        int nets = (int) model.count(0);
        return random.nextInt(60) == 0 ? random.nextInt(5) * 11 - 1 : random.nextInt(Math.max(nets, 1));
    }

    private void makeCalls() {
        for (int i = 0; i < CALLS; i++) {
            if (model.count(0) < netsAimedAt && random.nextInt(3) > 0) {
                callNet();
            } else if (clears && random.nextInt(200) == 0) {
                model.clear();
                x.clear();
            } else if (random.nextInt(3) > 0) {
                callThatBuilds();
            } else {
                callThatAsks();
            }
        }
        askAll();
    }

    private void callNet() {
        int early = near(0, timeScale);
        int late = random.nextInt(20) == 0 ? early - 1 : Math.min(1000000, early + upTo(timeScale / 4));
        int slope = random.nextInt(4) == 0 ? 1000 * upTo(3) : near(0, 10000);
        both("net", () -> model.net(early, late, slope), () -> x.net(early, late, slope));
    }

    private void callThatBuilds() {
        int a = anyNet();
        int b = anyNet();
        switch (random.nextInt(12)) {
            case 0:
            case 1:
            case 2:
            case 3:
            case 4:
                int share = random.nextInt(3) == 0 ? 100 * (1 + upTo(2)) : near(1, 1000);
                both("couple", () -> model.couple(a, b, share), () -> x.couple(a, b, share));
                break;
            case 5:
                both("exclude", () -> model.exclude(a, b), () -> x.exclude(a, b) ? 1 : 0);
                break;
            case 6:
            case 7:
            case 8:
                int delay = near(0, Math.min(100000, timeScale));
                both("stage", () -> model.stage(a, b, delay), () -> x.stage(a, b, delay));
                break;
            case 9:
                int n = near(1, 8);
                both("keep", () -> model.keep(n), () -> x.keep(n));
                break;
            case 10:
                int height = (int) model.count(4) * 400 + near(0, 500) - 20;
                int through = near(0, 6000);
                both("row", () -> model.row(height, through), () -> x.row(height, through) ? 1 : 0);
                break;
            default:
                int rounds = near(1, random.nextBoolean() ? 4 : 50);
                boolean widest = random.nextBoolean();
                both("run", () -> model.run(rounds, widest), () -> x.run(rounds, widest));
                break;
        }
    }

    private void callThatAsks() {
        int net = anyNet();
        int k = near(0, 9);
        both("early", () -> model.early(net), () -> x.early(net));
        both("late", () -> model.late(net), () -> x.late(net));
        both("added", () -> model.added(net), () -> x.added(net));
        both("changed", () -> model.changed(k), () -> x.changed(k));
        both("source", () -> model.source(net, k), () -> x.source(net, k));
        both("height", () -> model.height(net), () -> x.height(net));
        both("noise", () -> model.noise(net), () -> x.noise(net));
        both("count", () -> model.count(k - 2), () -> x.count(k - 2));
    }

    private void askAll() {
        for (int widest = 0; widest < 2; widest++) {
            boolean from = widest == 1;
            both("run", () -> model.run(50, from), () -> x.run(50, from));
            for (int i = -1; i <= 40; i++) {
                int net = i;
                both("early", () -> model.early(net), () -> x.early(net));
                both("late", () -> model.late(net), () -> x.late(net));
                both("added", () -> model.added(net), () -> x.added(net));
                both("changed", () -> model.changed(net), () -> x.changed(net));
                both("height", () -> model.height(net), () -> x.height(net));
                both("noise", () -> model.noise(net), () -> x.noise(net));
                both("source", () -> model.source(0, net), () -> x.source(0, net));
                both("count", () -> model.count(net), () -> x.count(net));
            }
        }
    }
}
