/**
 * What calls show of an object, as a text to compare. Each question is for an object of its own:
 * behind the making of a full one, no question takes the calls above 512.
 */
final class Shown {
    interface Question {
        String ask(CrossRounds x);
    }

    interface Answer {
        Object get();
    }

    static final Question[] ALL = {
        Shown::held, Shown::latestRun, Shown::sharesAndExclusions, Shown::nextRuns, Shown::whatComesNext
    };

    private Shown() {
    }

    static String answer(Answer call) {
        try {
            return call.get() + " ";
        } catch (RuntimeException e) {
            return e.getClass().getSimpleName() + " ";
        }
    }

    static String held(CrossRounds x) {
        StringBuilder text = new StringBuilder("held: ");
        for (int what = 0; what < 5; what++) {
            text.append(x.count(what)).append(' ');
        }
        int nets = x.count(0);
        for (int i = 0; i < nets; i++) {
            text.append(x.height(i)).append(' ').append(x.noise(i)).append(' ');
        }
        for (int i = 0; i < nets; i += 6) {
            for (int k = 0; k < 7; k++) {
                text.append(x.source(i, k)).append(' ');
            }
        }
        return text.append(x.keep(1)).toString();
    }

    static String latestRun(CrossRounds x) {
        StringBuilder text = new StringBuilder("latest run: ").append(spans(x));
        for (int r = 0; r < 6; r++) {
            int round = r;
            text.append(answer(() -> x.changed(round)));
        }
        return text.toString();
    }

    private static String spans(CrossRounds x) {
        StringBuilder text = new StringBuilder();
        int nets = x.count(0);
        for (int i = 0; i < nets; i++) {
            text.append(x.early(i)).append(' ').append(x.late(i)).append(' ').append(x.added(i)).append(' ');
        }
        return text.toString();
    }

    static String sharesAndExclusions(CrossRounds x) {
        StringBuilder text = new StringBuilder("shares and exclusions: ");
        int nets = x.count(0);
        for (int i = 0; i < nets; i++) {
            for (int apart = 1; apart <= 3; apart++) {
                int a = i;
                int b = (i + apart) % nets;
                text.append(answer(() -> x.couple(a, b, 1)));
                if (apart == 1 || nets < 40) {
                    text.append(answer(() -> x.exclude(a, b)));
                }
            }
        }
        return text.append(answer(() -> x.exclude(20, 30))).toString();
    }

    static String nextRuns(CrossRounds x) {
        StringBuilder text = new StringBuilder("next runs: ").append(x.run(50, false)).append(' ');
        text.append(spans(x)).append(x.run(1, true)).append(' ');
        int nets = x.count(0);
        for (int i = 0; i < nets; i++) {
            text.append(x.late(i)).append(' ');
        }
        return text.toString();
    }

    static String whatComesNext(CrossRounds x) {
        StringBuilder text = new StringBuilder("what comes next: ");
        text.append(answer(() -> x.net(1, 2, 3)));
        for (int to = 1; to < 7; to++) {
            int goal = to;
            text.append(answer(() -> x.stage(0, goal, 5))).append(answer(() -> x.stage(goal, 0, 5)));
        }
        for (int height = 0; height <= 700; height += 50) {
            int above = height;
            text.append(answer(() -> x.row(above, 1)));
        }
        return text.toString();
    }
}
