/** Promises 13 and 14, and what 3, 4 and 6 do to them: the order of sources, and heights. */
public final class SourcesTest {
    public static void main(String[] args) {
        strongestComesFirst();
        excludedOnesAreNoSources();
        anotherShareMovesASource();
        sourcesGoBeyondTheKept();
        placesAreLookedAt();
        heightsAreOfTheKept();
        Check.end();
    }

    private static void sources(String when, CrossRounds x, int net, int... due) {
        for (int k = 0; k < due.length; k++) {
            Check.same(when + ": source(" + net + ", " + k + ")", due[k], x.source(net, k));
        }
        Check.same(when + ": behind the last", -1, x.source(net, due.length));
    }

    private static void strongestComesFirst() {
        CrossRounds x = new CrossRounds();
        x.net(0, 0, 0);
        x.net(0, 0, 100);
        x.net(0, 0, 200);
        x.net(0, 0, 200);
        x.net(0, 0, 100);
        x.net(0, 0, 0);
        x.net(0, 0, 0);
        x.net(0, 0, 10000);
        x.couple(0, 6, 900);
        x.couple(0, 5, 901);
        x.couple(0, 4, 400);
        x.couple(3, 0, 200);
        x.couple(2, 0, 200);
        x.couple(0, 1, 401);
        x.couple(0, 7, 4);
        // 1: 40100; 7, 4, 2, 3: 40000 with shares 4, 400, 200, 200; 5, 6: 0
        sources("by strength, share, net", x, 0, 1, 4, 2, 3, 7, 5, 6);
        sources("from the other side", x, 1, 0);
    }

    private static void excludedOnesAreNoSources() {
        CrossRounds x = new CrossRounds();
        for (int i = 0; i < 5; i++) {
            x.net(0, 0, 100);
        }
        x.exclude(0, 4);
        x.couple(0, 1, 10);
        x.couple(0, 2, 20);
        x.couple(0, 3, 30);
        x.couple(0, 4, 40);
        sources("excluded before", x, 0, 3, 2, 1);
        sources("excluded before, the other side", x, 4);
        x.exclude(2, 0);
        sources("excluded behind", x, 0, 3, 1);
        sources("excluded behind, the other side", x, 2);
        Check.same("the share of an excluded couple", 20, x.couple(0, 2, 1000));
        sources("still excluded", x, 0, 3, 1);
        Check.same("height without excluded ones", 40, x.height(0));
        x.couple(1, 3, 5);
        x.exclude(2, 4);
        sources("excluded pairs of others", x, 0, 3, 1);
        sources("not excluded from others", x, 3, 0, 1);
    }

    private static void anotherShareMovesASource() {
        CrossRounds x = new CrossRounds();
        for (int i = 0; i < 4; i++) {
            x.net(0, 0, 100);
        }
        x.couple(0, 1, 10);
        x.couple(0, 2, 20);
        x.couple(0, 3, 30);
        sources("at first", x, 0, 3, 2, 1);
        x.couple(0, 1, 25);
        sources("moved ahead", x, 0, 3, 1, 2);
        x.couple(3, 0, 1);
        sources("moved back", x, 0, 1, 2, 3);
        x.couple(0, 2, 25);
        sources("the same share", x, 0, 1, 2, 3);
        Check.same("height", 51, x.height(0));
    }

    private static void sourcesGoBeyondTheKept() {
        CrossRounds x = new CrossRounds();
        for (int i = 0; i < 40; i++) {
            x.net(0, 0, 10);
        }
        int[] due = new int[39];
        for (int i = 1; i < 40; i++) {
            x.couple(0, i, i);
            due[39 - i] = i;
        }
        x.keep(1);
        sources("39 sources, one kept", x, 0, due);
    }

    private static void placesAreLookedAt() {
        CrossRounds x = new CrossRounds();
        x.net(0, 0, 1);
        Check.same("no source", -1, x.source(0, 0));
        Check.same("greatest k", -1, x.source(0, Integer.MAX_VALUE));
        Check.throwsIndex("k below", () -> x.source(0, -1));
        Check.throwsIndex("k least", () -> x.source(0, Integer.MIN_VALUE));
        Check.throwsIndex("net above", () -> x.source(1, 0));
        Check.throwsIndex("net below", () -> x.source(-1, 0));
        Check.throwsIndex("height above", () -> x.height(1));
        Check.throwsIndex("height below", () -> x.height(-1));
    }

    private static void heightsAreOfTheKept() {
        CrossRounds x = new CrossRounds();
        x.net(0, 0, 0);
        for (int i = 1; i <= 10; i++) {
            x.net(500 * i, 500 * i, i);
        }
        Check.same("without a source", 0, x.height(0));
        for (int i = 1; i <= 10; i++) {
            x.couple(0, i, 1 << (i - 1));
        }
        int[] due = {512, 768, 896, 960, 992, 1008, 1016, 1020};
        Check.same("four at first", 960, x.height(0));
        for (int n = 1; n <= 8; n++) {
            x.keep(n);
            Check.same("kept " + n, due[n - 1], x.height(0));
        }
        x.keep(2);
        x.exclude(0, 10);
        Check.same("the next one is kept instead", 384, x.height(0));
        // by strength, not by share alone: net 10 has slope 10, net 1 slope 1
        CrossRounds y = new CrossRounds();
        y.net(0, 0, 0);
        y.net(0, 0, 1);
        y.net(0, 0, 10);
        y.couple(0, 1, 900);
        y.couple(0, 2, 100);
        y.keep(1);
        Check.same("the strongest has the lesser share", 100, y.height(0));
    }
}
