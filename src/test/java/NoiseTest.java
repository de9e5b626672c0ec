/** Promises 7 and 15: the table, and noise through it. */
public final class NoiseTest {
    public static void main(String[] args) {
        rowsRise();
        rowsHaveRanges();
        rowsHaveALimit();
        noiseWithoutStagesIsTheHeight();
        noiseGoesThroughTheTable();
        noiseTakesTheGreatestThatComesThrough();
        noiseGoesAlongChains();
        noiseIsAsThingsAre();
        Check.throwsIndex("noise(0) without nets", () -> new CrossRounds().noise(0));
        Check.end();
    }

    private static void rowsRise() {
        CrossRounds x = new CrossRounds();
        Check.yes("the first", x.row(5, 10));
        Check.no("the same", x.row(5, 11));
        Check.no("below", x.row(4, 12));
        Check.same("none of these came in", 1, x.count(4));
        Check.yes("above", x.row(6, 0));
        Check.yes("the greatest", x.row(100000, 100000));
        Check.no("the greatest again", x.row(100000, 100000));
        Check.same("rows", 3, x.count(4));
    }

    private static void rowsHaveRanges() {
        CrossRounds x = new CrossRounds();
        Check.throwsArgument("height below", () -> x.row(-1, 0));
        Check.throwsArgument("height above", () -> x.row(100001, 0));
        Check.throwsArgument("through below", () -> x.row(0, -1));
        Check.throwsArgument("through above", () -> x.row(0, 100001));
        Check.same("no rows", 0, x.count(4));
        Check.yes("the least", x.row(0, 0));
        Check.throwsArgument("not above, and through is wrong", () -> x.row(0, -1));
    }

    private static void rowsHaveALimit() {
        CrossRounds x = new CrossRounds();
        for (int i = 0; i < 20; i++) {
            Check.yes("row", x.row(i, i));
        }
        Check.throwsState("row 21", () -> x.row(50, 1));
        Check.throwsState("row 21 that does not rise", () -> x.row(0, 1));
        Check.throwsArgument("row 21 that is wrong", () -> x.row(-1, 1));
        Check.same("rows", 20, x.count(4));
    }

    private static CrossRounds pairs(int nets) {
        CrossRounds x = new CrossRounds();
        for (int i = 0; i < nets; i++) {
            x.net(0, 0, 10);
        }
        return x;
    }

    private static void noiseWithoutStagesIsTheHeight() {
        CrossRounds x = pairs(3);
        x.row(0, 700);
        x.couple(0, 1, 30);
        Check.same("coupled", 30, x.noise(0));
        Check.same("not coupled", 0, x.noise(2));
        Check.throwsIndex("above", () -> x.noise(3));
        Check.throwsIndex("below", () -> x.noise(-1));
    }

    private static void noiseGoesThroughTheTable() {
        CrossRounds x = pairs(4);
        x.stage(0, 2, 5);
        x.couple(0, 1, 30);
        x.couple(2, 3, 4);
        Check.same("no table", 4, x.noise(2));
        x.row(31, 1000);
        Check.same("below the first row", 4, x.noise(2));
        x.couple(0, 1, 31);
        Check.same("at the first row", 1004, x.noise(2));
        x.row(40, 20);
        x.row(50, 600);
        x.couple(0, 1, 39);
        Check.same("above the first row", 1004, x.noise(2));
        x.couple(0, 1, 40);
        Check.same("at the second row", 24, x.noise(2));
        x.couple(0, 1, 49);
        Check.same("above the second row", 24, x.noise(2));
        x.couple(0, 1, 1000);
        Check.same("above the last row", 604, x.noise(2));
        Check.same("nothing goes back", 1000, x.noise(0));
    }

    private static void noiseTakesTheGreatestThatComesThrough() {
        CrossRounds x = pairs(5);
        x.row(10, 500);
        x.row(20, 5);
        x.stage(0, 2, 0);
        x.stage(1, 2, 0);
        x.couple(0, 3, 15);
        x.couple(1, 4, 25);
        Check.same("the lesser noise has the greater through", 500, x.noise(2));
        x.couple(0, 3, 9);
        Check.same("the other one", 5, x.noise(2));
        x.stage(1, 2, 7);
        Check.same("the same way twice", 5, x.noise(2));
    }

    private static void noiseGoesAlongChains() {
        CrossRounds x = pairs(40);
        x.row(1, 2);
        x.row(2, 3);
        x.row(3, 4);
        x.row(4, 100000);
        x.row(100000, 7);
        for (int i = 39; i > 1; i--) {
            x.stage(i, i - 1, 0);
        }
        Check.same("nothing comes through nothing", 0, x.noise(1));
        x.couple(39, 0, 1);
        int[] due = {1, 2, 3, 4, 100000, 7, 100000, 7, 100000};
        for (int i = 0; i < due.length; i++) {
            Check.same("place " + i + " of the chain", due[i], x.noise(39 - i));
        }
        Check.same("the end of the chain", 100000, x.noise(1));
        x.couple(1, 2, 1000);
        Check.same("both have a height: the last but one", 1007, x.noise(2));
        Check.same("both have a height: the last", 101000, x.noise(1));
    }

    private static void noiseIsAsThingsAre() {
        CrossRounds x = pairs(8);
        x.row(0, 1);
        x.row(100, 2);
        x.stage(0, 1, 0);
        for (int i = 2; i < 8; i++) {
            x.couple(0, i, 25);
        }
        Check.same("four kept", 2, x.noise(1));
        x.keep(3);
        Check.same("three kept", 1, x.noise(1));
        x.keep(8);
        Check.same("all kept", 2, x.noise(1));
        x.exclude(0, 2);
        x.exclude(0, 3);
        Check.same("two excluded", 2, x.noise(1));
        x.exclude(0, 4);
        Check.same("three excluded", 1, x.noise(1));
        x.run(5, true);
        Check.same("a run changes no noise", 1, x.noise(1));
    }
}
