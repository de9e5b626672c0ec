import java.util.Random;

/** All promises together: long runs of mixed calls, each answer against the plain model. */
public final class ModelTest {
    private static final int RUNS = 1000;
    /** Nothing is promised of an object behind so many calls. */
    private static final int MOST_CALLS = 512;
    /** So many are made before the object is asked for all that it shows. */
    private static final int MIXED_CALLS = 335;
    private static final long THREW_INDEX = -1001;
    private static final long THREW_ARGUMENT = -1002;
    private static final long THREW_STATE = -1003;
    private static final long THREW_OTHER = -1004;

    private interface Answer {
        long get();
    }

    private final Random random;
    private final CrossRounds x = new CrossRounds();
    private final PlainModel model = new PlainModel();
    private final int seed;
    private final int netsAimedAt;
    private final int timeScale;
    private final boolean clears;
    private int calls = 0;

    private ModelTest(int seed) {
        this.seed = seed;
        random = new Random(seed);
        netsAimedAt = seed % 4 == 0 ? 41 : 3 + random.nextInt(15);
        timeScale = seed % 3 == 0 ? 1000000 : seed % 3 == 1 ? 5000 : 100;
        clears = seed % 5 == 0;
    }

    public static void main(String[] args) {
        for (int seed = 0; seed < RUNS; seed++) {
            new ModelTest(seed).makeCalls();
        }
        Check.end();
    }

    private static long answer(Answer call) {
        try {
            return call.get();
        } catch (IndexOutOfBoundsException e) {
            return THREW_INDEX;
        } catch (IllegalArgumentException e) {
            return THREW_ARGUMENT;
        } catch (IllegalStateException e) {
            return THREW_STATE;
        } catch (RuntimeException e) {
            return THREW_OTHER;
        }
    }

    private void both(String call, Answer due, Answer got) {
        if (calls == MOST_CALLS) {
            return;
        }
        calls++;
        Check.same("seed " + seed + ": " + call, answer(due), answer(got));
    }

    private int upTo(int most) {
        return random.nextInt(most + 1);
    }

    /** Mostly a number from least to greatest; now and then an edge, or one beyond. */
    private int near(int least, int greatest) {
        switch (random.nextInt(40)) {
            case 0:
                return least - 1;
            case 1:
                return greatest + 1;
            case 2:
                return least;
            case 3:
                return greatest;
            default:
                return least + upTo(greatest - least);
        }
    }

    private int anyNet() {
        int nets = (int) model.count(0);
        return random.nextInt(60) == 0 ? random.nextInt(5) * 11 - 1 : random.nextInt(Math.max(nets, 1));
    }

    private void makeCalls() {
        while (calls < MIXED_CALLS) {
            if (model.count(0) < netsAimedAt && random.nextInt(3) > 0) {
                callNet();
            } else if (clears && random.nextInt(200) == 0) {
                both("clear", () -> cleared(model::clear), () -> cleared(x::clear));
            } else if (random.nextInt(4) > 0) {
                callThatBuilds();
            } else {
                callThatAsks();
            }
        }
        askAll();
    }

    private static long cleared(Runnable clear) {
        clear.run();
        return 0;
    }

    private void callNet() {
        int early = near(0, timeScale);
        int late = random.nextInt(20) == 0 ? early - 1 : Math.min(1000000, early + upTo(timeScale / 4));
        int slope = random.nextInt(4) == 0 ? 1000 * upTo(3) : near(0, 10000);
        both("net", () -> model.net(early, late, slope), () -> x.net(early, late, slope));
    }

    private void callThatBuilds() {
        int a = anyNet();
        int b = anyNet();
        switch (random.nextInt(12)) {
            case 0:
            case 1:
            case 2:
            case 3:
            case 4:
                int share = random.nextInt(3) == 0 ? 100 * (1 + upTo(2)) : near(1, 1000);
                both("couple", () -> model.couple(a, b, share), () -> x.couple(a, b, share));
                break;
            case 5:
                both("exclude", () -> model.exclude(a, b), () -> x.exclude(a, b) ? 1 : 0);
                break;
            case 6:
            case 7:
            case 8:
                int delay = near(0, Math.min(100000, timeScale));
                both("stage", () -> model.stage(a, b, delay), () -> x.stage(a, b, delay));
                break;
            case 9:
                int n = near(1, 8);
                both("keep", () -> model.keep(n), () -> x.keep(n));
                break;
            case 10:
                int height = (int) model.count(4) * 400 + near(0, 500) - 20;
                int through = near(0, 6000);
                both("row", () -> model.row(height, through), () -> x.row(height, through) ? 1 : 0);
                break;
            default:
                int rounds = near(1, random.nextBoolean() ? 4 : 50);
                boolean widest = random.nextBoolean();
                both("run", () -> model.run(rounds, widest), () -> x.run(rounds, widest));
                break;
        }
    }

    private void callThatAsks() {
        int net = anyNet();
        int k = near(0, 9);
        switch (random.nextInt(8)) {
            case 0:
                both("early", () -> model.early(net), () -> x.early(net));
                break;
            case 1:
                both("late", () -> model.late(net), () -> x.late(net));
                break;
            case 2:
                both("added", () -> model.added(net), () -> x.added(net));
                break;
            case 3:
                both("changed", () -> model.changed(k), () -> x.changed(k));
                break;
            case 4:
                both("source", () -> model.source(net, k), () -> x.source(net, k));
                break;
            case 5:
                both("height", () -> model.height(net), () -> x.height(net));
                break;
            case 6:
                both("noise", () -> model.noise(net), () -> x.noise(net));
                break;
            default:
                both("count", () -> model.count(k - 2), () -> x.count(k - 2));
                break;
        }
    }

    /** The most telling questions first: of many nets, the last ones find no call left. */
    private void askAll() {
        boolean widest = seed % 2 == 0;
        both("run", () -> model.run(50, widest), () -> x.run(50, widest));
        for (int i = 0; i < model.count(0); i++) {
            int net = i;
            both("late", () -> model.late(net), () -> x.late(net));
            both("added", () -> model.added(net), () -> x.added(net));
            both("noise", () -> model.noise(net), () -> x.noise(net));
            both("early", () -> model.early(net), () -> x.early(net));
        }
        for (int i = 0; i < 40; i++) {
            int place = i;
            both("changed", () -> model.changed(place), () -> x.changed(place));
            both("source", () -> model.source(place / 8, place % 8), () -> x.source(place / 8, place % 8));
            both("height", () -> model.height(place), () -> x.height(place));
            both("count", () -> model.count(place % 5), () -> x.count(place % 5));
        }
    }
}
