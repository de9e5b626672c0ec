/** What calls answer at the edges that the document names, a sentence each. */
public final class EdgesTest {
    public static void main(String[] args) {
        aNewObjectHoldsNothing();
        netsAreNumberedFrom0();
        theShareWas0WithoutOne();
        excludedNetsMayBeCoupled();
        netsThatAreNotCoupledMayBeExcluded();
        stagesAreNumberedFrom0();
        noNetIsLedBackOverOneStage();
        noNetIsLedBackOverManyStages();
        aLoopThatIsNoWayBackIsTaken();
        fourAreKeptAtFirst();
        theFirstRowIsAboveAll();
        aRowMustBeAboveTheLastOne();
        aRunMakesOneRoundAtLeast();
        spansAreNoneBeforeARun();
        spansAreNoneForANetThatCameBehind();
        addedIs0BeforeARun();
        noRoundsBeforeARun();
        roundsAreOfTheLatestRunAlone();
        fewerSourcesThanAskedFor();
        theOrderOfSourcesInTies();
        sourcesOfNoStrengthAreSourcesToo();
        eachSourceIsRoundedDown();
        spansThatTouchHaveANumberInCommon();
        aSpanMayBeOneNumber();
        aLedNetForgetsItsOwnTimes();
        aLedSpanMayEndAt0();
        stagesMayComeInAnyOrder();
        addedComesOnlyToTheEnd();
        spansAreWorkedOutOnceMore();
        aRoundSeesOnlyTheSpansBeforeIt();
        fromTheWidestSpansDoNotMatterAtFirst();
        heightIs0WithoutSources();
        heightsAreWhateverTheSpansAre();
        noRowComesThroughBelowTheFirst();
        aRowCountsFromItsHeightOn();
        noNoiseComesWithoutStages();
        clearOfANewObject();
        clearForgetsAll();
        Check.end();
    }

    private static void sources(String when, CrossRounds x, int net, int... due) {
        for (int k = 0; k < due.length; k++) {
            Check.same(when + ": source(" + net + ", " + k + ")", due[k], x.source(net, k));
        }
        Check.same(when + ": no source more", -1, x.source(net, due.length));
    }

    private static void span(String when, CrossRounds x, int net, int early, int late) {
        Check.same(when + ": early(" + net + ")", early, x.early(net));
        Check.same(when + ": late(" + net + ")", late, x.late(net));
    }

    private static CrossRounds pair(int share, int... timesAndSlopes) {
        CrossRounds x = new CrossRounds();
        for (int i = 0; i < timesAndSlopes.length; i += 3) {
            x.net(timesAndSlopes[i], timesAndSlopes[i + 1], timesAndSlopes[i + 2]);
        }
        x.couple(0, 1, share);
        return x;
    }

    /** Promise 1: "No nets, no rows of the table" */
    private static void aNewObjectHoldsNothing() {
        CrossRounds x = new CrossRounds();
        for (int what = 0; what < 5; what++) {
            Check.same("count(" + what + ")", 0, x.count(what));
        }
        Check.throwsIndex("no net", () -> x.height(0));
        Check.throwsIndex("no round", () -> x.changed(0));
        Check.same("the first net", 0, x.net(0, 0, 0));
        Check.same("the second net", 1, x.net(0, 0, 0));
        x.stage(0, 1, 0);
        Check.same("no row", 0, x.noise(1));
    }

    /** Promise 2: "A new net: its number." */
    private static void netsAreNumberedFrom0() {
        CrossRounds x = new CrossRounds();
        Check.same("the first", 0, x.net(9, 9, 9));
        Check.throwsArgument("refused", () -> x.net(9, 8, 9));
        Check.same("a refused one has no number", 1, x.net(9, 9, 9));
        x.clear();
        Check.same("from 0 again", 0, x.net(9, 9, 9));
    }

    /** Promise 3: "what the share was, 0 without one" */
    private static void theShareWas0WithoutOne() {
        CrossRounds x = States.withNets(4);
        Check.same("without one", 0, x.couple(0, 1, 1000));
        Check.same("what it was", 1000, x.couple(0, 1, 1));
        Check.same("what it was, the other way round", 1, x.couple(1, 0, 1));
        Check.same("the same share again", 1, x.couple(0, 1, 1));
        Check.same("another pair of the same net", 0, x.couple(0, 2, 7));
        Check.same("a pair that was never named", 0, x.couple(3, 2, 7));
        Check.same("couples", 3, x.count(1));
    }

    /** "SOURCES of a net are the nets that it is coupled with and not excluded from" */
    private static void excludedNetsMayBeCoupled() {
        CrossRounds x = States.withNets(2);
        x.exclude(0, 1);
        Check.same("coupled behind", 0, x.couple(0, 1, 5));
        sources("coupled behind", x, 0);
        sources("coupled behind", x, 1);
        Check.same("height", 0, x.height(0));
        Check.same("the couple is there", 1, x.count(1));
        Check.same("with its share", 5, x.couple(1, 0, 6));
        x.run(5, true);
        Check.same("from the widest", 0, x.added(0));
        x.run(5, false);
        Check.same("from the least", 0, x.added(0));
    }

    /** Promise 4: "whether they were not" */
    private static void netsThatAreNotCoupledMayBeExcluded() {
        CrossRounds x = States.withNets(3);
        Check.yes("not coupled", x.exclude(2, 0));
        Check.no("again", x.exclude(2, 0));
        Check.no("the other way round", x.exclude(0, 2));
        Check.yes("another pair", x.exclude(1, 0));
        Check.same("pairs", 2, x.count(2));
        Check.same("couples", 0, x.count(1));
    }

    /** Promise 5: "A new stage: its number" */
    private static void stagesAreNumberedFrom0() {
        CrossRounds x = States.withNets(3);
        Check.same("the first", 0, x.stage(2, 1, 0));
        Check.same("back", -1, x.stage(1, 2, 0));
        Check.throwsArgument("refused", () -> x.stage(2, 1, -1));
        Check.same("the second", 1, x.stage(2, 1, 0));
        Check.same("the third", 2, x.stage(1, 0, 0));
        x.clear();
        x.net(0, 0, 0);
        x.net(0, 0, 0);
        Check.same("from 0 again", 0, x.stage(0, 1, 0));
    }

    /** "no net is led back to itself" */
    private static void noNetIsLedBackOverOneStage() {
        CrossRounds x = States.withNets(2);
        Check.same("ahead", 0, x.stage(1, 0, 0));
        Check.same("back", -1, x.stage(0, 1, 0));
        Check.same("back with the greatest delay", -1, x.stage(0, 1, 100000));
        Check.same("ahead again", 1, x.stage(1, 0, 0));
        Check.same("stages", 2, x.count(3));
    }

    /** "over however many" */
    private static void noNetIsLedBackOverManyStages() {
        for (int length = 2; length <= 40; length++) {
            CrossRounds x = States.withNets(40);
            // the middle comes last, so that two chains are joined
            for (int i = 0; i < length - 1; i++) {
                if (i != length / 2) {
                    x.stage(i, i + 1, 0);
                }
            }
            if (length / 2 < length - 1) {
                x.stage(length / 2, length / 2 + 1, 0);
            }
            Check.same("back over " + (length - 1), -1, x.stage(length - 1, 0, 0));
            Check.same("stages", length - 1, x.count(3));
            Check.same("ahead over " + (length - 1), length - 1, x.stage(0, length - 1, 0));
        }
    }

    private static void aLoopThatIsNoWayBackIsTaken() {
        CrossRounds x = States.withNets(4);
        Check.same("one way", 0, x.stage(0, 1, 0));
        Check.same("another way", 1, x.stage(0, 2, 0));
        Check.same("they meet", 2, x.stage(1, 3, 0));
        Check.same("they meet", 3, x.stage(2, 3, 0));
        Check.same("from one way to the other", 4, x.stage(1, 2, 0));
        Check.same("but not back", -1, x.stage(2, 1, 0));
        Check.same("nor from the end", -1, x.stage(3, 1, 0));
    }

    /** Promises 1, 6 and 17: "four sources are kept" */
    private static void fourAreKeptAtFirst() {
        CrossRounds x = new CrossRounds();
        Check.same("at first", 4, x.keep(8));
        Check.throwsArgument("refused", () -> x.keep(9));
        Check.same("what was kept", 8, x.keep(1));
        x.clear();
        Check.same("after clear", 4, x.keep(4));
    }

    /** Promise 7: "whether its height is above the last one's", without a last one */
    private static void theFirstRowIsAboveAll() {
        Check.yes("the least", new CrossRounds().row(0, 0));
        Check.yes("the greatest", new CrossRounds().row(100000, 100000));
        CrossRounds x = new CrossRounds();
        x.row(100000, 1);
        Check.no("none is above the greatest", x.row(100000, 2));
        x.clear();
        Check.yes("the first one again", x.row(0, 0));
        Check.same("rows", 1, x.count(4));
    }

    /** Promise 7: "whether its height is above the last one's" */
    private static void aRowMustBeAboveTheLastOne() {
        CrossRounds x = States.withNets(3);
        x.stage(0, 1, 0);
        x.couple(0, 2, 10);
        x.row(9, 100);
        Check.no("below", x.row(8, 200));
        Check.no("the same", x.row(9, 300));
        Check.same("neither came in", 1, x.count(4));
        Check.same("neither counts", 100, x.noise(1));
        Check.yes("one above", x.row(10, 400));
        Check.same("it came in", 2, x.count(4));
        Check.same("it counts", 400, x.noise(1));
        Check.no("above the first, not the last", x.row(10, 500));
        Check.same("still counts", 400, x.noise(1));
    }

    /** Promise 8: "how many rounds were made" */
    private static void aRunMakesOneRoundAtLeast() {
        CrossRounds x = new CrossRounds();
        for (int nets = 0; nets < 3; nets++) {
            Check.same("from the least, nothing to add", 1, x.run(50, false));
            Check.same("from the widest, nothing to add", 1, x.run(1, true));
            Check.same("nothing changed", 0, x.changed(0));
            Check.throwsIndex("no round more", () -> x.changed(1));
            x.net(0, 0, 10000);
        }
    }

    /** Promises 9 and 10: "NONE before one" */
    private static void spansAreNoneBeforeARun() {
        CrossRounds x = pair(5, 3, 4, 5, 6, 7, 8);
        x.stage(0, 1, 5);
        x.noise(1);
        span("before a run", x, 0, -1, -1);
        span("before a run", x, 1, -1, -1);
        Check.throwsArgument("refused", () -> x.run(0, true));
        Check.throwsArgument("refused", () -> x.run(51, true));
        span("a refused run is none", x, 0, -1, -1);
        x.run(1, false);
        span("behind a run", x, 0, 3, 4);
        span("behind a run", x, 1, 8, 9);
    }

    /** Promises 9 and 10: "and for a net that came behind it" */
    private static void spansAreNoneForANetThatCameBehind() {
        CrossRounds x = new CrossRounds();
        x.run(1, false);
        x.net(1, 2, 3);
        span("behind a run without nets", x, 0, -1, -1);
        x.run(1, false);
        x.net(4, 5, 6);
        x.stage(0, 1, 7);
        x.couple(0, 1, 8);
        span("the one that was there", x, 0, 1, 2);
        span("the one that came behind", x, 1, -1, -1);
        Check.same("nothing is added to it", 0, x.added(1));
        Check.throwsArgument("refused", () -> x.run(0, false));
        span("a refused run has not seen it", x, 1, -1, -1);
        x.run(1, false);
        span("the next run has", x, 1, 8, 9);
    }

    /** Promise 11: "0 before one" */
    private static void addedIs0BeforeARun() {
        CrossRounds x = pair(1000, 0, 10, 10000, 0, 10, 10000);
        Check.same("before a run", 0, x.added(0));
        x.run(1, false);
        Check.same("behind it", 10000, x.added(0));
        x.couple(0, 1, 1);
        Check.same("by the latest run", 10000, x.added(0));
        x.clear();
        x.net(0, 10, 10000);
        Check.same("after clear", 0, x.added(0));
    }

    /** Promise 12: "there was no such round" */
    private static void noRoundsBeforeARun() {
        CrossRounds x = pair(5, 0, 10, 1000, 0, 10, 1000);
        Check.throwsIndex("before a run", () -> x.changed(0));
        Check.throwsArgument("refused", () -> x.run(51, false));
        Check.throwsIndex("a refused run has no rounds", () -> x.changed(0));
        x.run(1, false);
        Check.same("the first round", 2, x.changed(0));
        Check.throwsArgument("refused", () -> x.run(0, false));
        Check.same("a refused run takes no rounds away", 2, x.changed(0));
        x.clear();
        Check.throwsIndex("after clear", () -> x.changed(0));
    }

    /** Promise 12: "of the latest run" */
    private static void roundsAreOfTheLatestRunAlone() {
        CrossRounds x = States.unravelling(5);
        Check.same("many rounds", 11, x.run(50, true));
        Check.same("the last one of many", 0, x.changed(10));
        Check.same("few rounds", 2, x.run(2, true));
        Check.same("the last one of few", 2, x.changed(1));
        Check.throwsIndex("a round of the run before", () -> x.changed(2));
        Check.throwsIndex("the last round of the run before", () -> x.changed(10));
    }

    /** Promise 13: "NONE if it has not so many" */
    private static void fewerSourcesThanAskedFor() {
        CrossRounds x = States.withNets(4);
        sources("none", x, 0);
        x.couple(0, 1, 5);
        sources("one", x, 0, 1);
        x.couple(0, 2, 6);
        sources("two", x, 0, 2, 1);
        x.couple(0, 3, 7);
        x.keep(1);
        sources("three, though one is kept", x, 0, 3, 2, 1);
        x.exclude(0, 2);
        sources("one of them excluded", x, 0, 3, 1);
        x.exclude(0, 3);
        x.exclude(1, 0);
        sources("all of them excluded", x, 0);
    }

    /** "of the same by shares, the greater first, of the same the lesser net first" */
    private static void theOrderOfSourcesInTies() {
        CrossRounds x = new CrossRounds();
        x.net(0, 0, 0);
        x.net(0, 0, 10000);
        x.net(0, 0, 9999);
        x.net(0, 0, 10000);
        x.net(0, 0, 5000);
        x.couple(0, 4, 1000);
        x.couple(0, 3, 500);
        x.couple(0, 2, 500);
        x.couple(0, 1, 500);
        sources("shares, then nets, then less by a little", x, 0, 4, 1, 3, 2);
        x.couple(0, 2, 501);
        sources("more by a little", x, 0, 2, 4, 1, 3);
        x.couple(0, 1, 1000);
        x.couple(0, 3, 1000);
        sources("the greatest there are", x, 0, 1, 3, 2, 4);
    }

    private static void sourcesOfNoStrengthAreSourcesToo() {
        CrossRounds x = new CrossRounds();
        x.net(0, 10, 0);
        x.net(0, 10, 0);
        x.net(0, 10, 0);
        x.net(0, 10, 1);
        x.couple(0, 1, 999);
        x.couple(0, 2, 1000);
        x.couple(0, 3, 1);
        sources("the weakest that is not nothing is first", x, 0, 3, 2, 1);
        Check.same("their shares are heights", 2000, x.height(0));
        x.run(50, true);
        Check.same("and add nothing", 0, x.added(0));
    }

    /** "SHARE * SLOPE / 1000, rounded down" */
    private static void eachSourceIsRoundedDown() {
        int[][] sharesSlopesDue = {
            {1, 0, 0}, {1, 999, 0}, {1, 1000, 1}, {1, 1001, 1}, {1, 1999, 1}, {1, 2000, 2},
            {999, 1, 0}, {1000, 1, 1}, {333, 3, 0}, {334, 3, 1}, {1000, 10000, 10000}, {999, 10000, 9990}
        };
        for (int[] each : sharesSlopesDue) {
            CrossRounds x = pair(each[0], 0, 10, 0, 0, 10, each[1]);
            x.run(1, false);
            Check.same(each[0] + " * " + each[1], each[2], x.added(0));
            x.run(1, true);
            Check.same(each[0] + " * " + each[1] + ", widest", each[2], x.added(0));
        }
        CrossRounds y = States.withNets(1);
        for (int i = 1; i <= 4; i++) {
            y.net(0, 10, 999);
            y.couple(0, i, 1);
        }
        y.run(1, false);
        Check.same("four of 999 are rounded down each", 0, y.added(0));
        y.run(1, true);
        Check.same("from the widest too", 0, y.added(0));
    }

    /** "sources whose spans have a number in common with its own" */
    private static void spansThatTouchHaveANumberInCommon() {
        int[][] timesDue = {
            {20, 30, 3}, {21, 30, 0}, {0, 10, 3}, {0, 9, 0}, {10, 20, 3}, {0, 40, 3},
            {12, 13, 3}, {20, 20, 3}, {10, 10, 3}, {9, 9, 0}, {21, 21, 0}, {1000000, 1000000, 0}
        };
        for (int[] each : timesDue) {
            CrossRounds x = pair(3, 10, 20, 1000, each[0], each[1], 1000);
            x.run(1, false);
            Check.same("10 .. 20 with " + each[0] + " .. " + each[1], each[2], x.added(0));
            Check.same(each[0] + " .. " + each[1] + " with 10 .. 20", each[2], x.added(1));
        }
    }

    /** "EARLY not above LATE": they may be the same. */
    private static void aSpanMayBeOneNumber() {
        CrossRounds x = pair(3, 7, 7, 1000, 7, 7, 1000);
        x.run(1, false);
        span("the same number", x, 0, 7, 10);
        CrossRounds y = pair(3, 7, 7, 1000, 8, 8, 1000);
        y.run(1, false);
        span("the next number", y, 0, 7, 7);
        y.run(1, true);
        span("the next number, from the widest", y, 0, 7, 10);
    }

    /** "without a stage that leads to it, from EARLY to LATE and its ADDED; else .." */
    private static void aLedNetForgetsItsOwnTimes() {
        CrossRounds x = new CrossRounds();
        x.net(500, 600, 0);
        x.net(0, 1000000, 0);
        x.run(1, false);
        span("not led", x, 1, 0, 1000000);
        x.stage(0, 1, 0);
        x.run(1, false);
        span("led without delay", x, 1, 500, 600);
        span("the net that leads", x, 0, 500, 600);
        x.stage(0, 1, 100000);
        x.run(1, false);
        span("led by two", x, 1, 500, 100600);
    }

    /** The least EARLY, LATE and DELAY together. */
    private static void aLedSpanMayEndAt0() {
        CrossRounds x = new CrossRounds();
        x.net(0, 0, 0);
        x.net(5, 5, 0);
        x.stage(0, 1, 0);
        x.run(1, false);
        span("led from 0 without delay", x, 1, 0, 0);
    }

    /** "(All as they are worked out with what is ADDED then.)": along each way from its beginning on. */
    private static void stagesMayComeInAnyOrder() {
        int[] places = {0, 1, 2};
        for (int order = 0; order < 24; order++) {
            int[] way = {0, 1, 2, 3};
            swap(way, 0, order % 4);
            swap(way, 1, 1 + order / 4 % 3);
            swap(way, 2, 2 + order / 12);
            for (int first : places) {
                for (int second : places) {
                    if (first != second) {
                        chainOf(way, first, second, 3 - first - second);
                    }
                }
            }
        }
    }

    private static void swap(int[] numbers, int one, int other) {
        int kept = numbers[one];
        numbers[one] = numbers[other];
        numbers[other] = kept;
    }

    private static void chainOf(int[] way, int... orderOfStages) {
        CrossRounds x = States.withNets(4);
        for (int place : orderOfStages) {
            x.stage(way[place], way[place + 1], 100);
        }
        x.couple(way[0], way[3], 5);
        x.row(5, 6);
        x.row(6, 7);
        x.row(7, 8);
        // the end first: no question before it has worked out what it needs
        Check.same("noise at the end", 13, x.noise(way[3]));
        Check.same("noise on the way", 7, x.noise(way[2]));
        Check.same("noise on the way", 6, x.noise(way[1]));
        Check.same("noise at the beginning", 5, x.noise(way[0]));
        Check.same("rounds", 1, x.run(1, false));
        for (int place = 0; place < 4; place++) {
            span("on a way", x, way[place], 100 * place, 100 * place + 10);
        }
    }

    /** "the end of that and the DELAY, and then its own ADDED" */
    private static void addedComesOnlyToTheEnd() {
        CrossRounds x = pair(100, 10, 20, 1000, 15, 15, 1000);
        x.net(0, 0, 0);
        x.net(125, 125, 1000);
        x.stage(0, 2, 5);
        x.run(50, false);
        span("with its own added", x, 0, 10, 120);
        span("with that of the net before", x, 2, 15, 125);
        x.couple(2, 3, 9);
        x.run(50, false);
        span("with both", x, 2, 15, 134);
        Check.same("its own", 9, x.added(2));
    }

    /** "SPANS are then worked out once more with what is ADDED." */
    private static void spansAreWorkedOutOnceMore() {
        CrossRounds x = pair(5, 0, 10, 1000, 0, 10, 1000);
        x.net(0, 0, 0);
        x.stage(0, 2, 100);
        x.run(1, false);
        span("cut off at one round, from the least", x, 0, 0, 15);
        span("and on", x, 2, 100, 115);
        CrossRounds y = pair(5, 0, 10, 1000, 50, 60, 1000);
        y.run(1, true);
        span("cut off at one round, from the widest", y, 0, 0, 10);
    }

    /** "all spans are worked out; then, with these, the new ADDED of each net" */
    private static void aRoundSeesOnlyTheSpansBeforeIt() {
        CrossRounds x = pair(5, 0, 10, 1000, 10, 10, 1000);
        x.net(15, 15, 1000);
        x.couple(1, 2, 3);
        x.run(1, false);
        Check.same("what is added to 1 now", 5, x.added(1));
        Check.same("reaches 2 in the next round", 0, x.added(2));
        x.run(2, false);
        Check.same("the next round", 3, x.added(2));
    }

    /** "(By all of its sources: whatever their spans are.)" */
    private static void fromTheWidestSpansDoNotMatterAtFirst() {
        CrossRounds x = pair(90, 0, 10, 1000, 100, 100, 1000);
        Check.same("it just reaches", 1, x.run(50, true));
        span("it just reaches", x, 0, 0, 100);
        x.couple(0, 1, 89);
        Check.same("one too few", 2, x.run(50, true));
        Check.same("both change", 2, x.changed(0));
        span("one too few", x, 0, 0, 10);
        x.couple(0, 1, 90);
        Check.same("from the least it never reaches", 1, x.run(50, false));
        span("from the least it never reaches", x, 0, 0, 10);
    }

    /** "THE HEIGHT of a net is the sum of the shares of its KEPT strongest sources" */
    private static void heightIs0WithoutSources() {
        CrossRounds x = States.withNets(2);
        Check.same("not coupled", 0, x.height(0));
        x.couple(0, 1, 1);
        Check.same("coupled", 1, x.height(0));
        x.exclude(0, 1);
        Check.same("excluded", 0, x.height(0));
    }

    /** "whatever their spans are" */
    private static void heightsAreWhateverTheSpansAre() {
        CrossRounds x = pair(30, 0, 0, 0, 1000000, 1000000, 0);
        Check.same("before a run", 30, x.height(0));
        x.run(50, false);
        Check.same("behind a run", 30, x.height(0));
    }

    /** "0 if there is none" */
    private static void noRowComesThroughBelowTheFirst() {
        CrossRounds x = States.withNets(3);
        x.stage(0, 1, 0);
        x.couple(0, 2, 10);
        Check.same("no rows", 0, x.noise(1));
        x.row(11, 500);
        Check.same("below the first row", 0, x.noise(1));
        x.couple(0, 2, 11);
        Check.same("at the first row", 500, x.noise(1));
    }

    /** "the THROUGH of the last row whose height is not above it" */
    private static void aRowCountsFromItsHeightOn() {
        CrossRounds x = States.withNets(3);
        x.stage(0, 1, 0);
        x.row(10, 500);
        x.row(20, 0);
        x.row(30, 700);
        int[][] sharesDue = {
            {9, 0}, {10, 500}, {11, 500}, {19, 500}, {20, 0}, {21, 0}, {29, 0}, {30, 700}, {1000, 700}
        };
        for (int[] each : sharesDue) {
            x.couple(0, 2, each[0]);
            Check.same("through of " + each[0], each[1], x.noise(1));
        }
    }

    /** "(0 without any)" */
    private static void noNoiseComesWithoutStages() {
        CrossRounds x = States.withNets(3);
        x.row(0, 500);
        x.couple(0, 1, 10);
        Check.same("a height alone", 10, x.noise(0));
        Check.same("not even that", 0, x.noise(2));
        x.stage(2, 1, 0);
        Check.same("noise 0 comes through", 510, x.noise(1));
        Check.same("not to the net that leads", 0, x.noise(2));
    }

    /** Promise 17: "No nets, no rows, nothing run; four sources are kept." */
    private static void clearOfANewObject() {
        for (Shown.Question question : Shown.ALL) {
            CrossRounds cleared = new CrossRounds();
            cleared.clear();
            cleared.clear();
            Check.same("cleared twice", question.ask(new CrossRounds()), question.ask(cleared));
        }
    }

    private static CrossRounds clearedAndBuilt(States.Maker maker) {
        CrossRounds x = maker.make();
        x.clear();
        for (int i = 0; i < 7; i++) {
            x.net(i, i + 10, 1000);
        }
        return x;
    }

    /** Promise 17, of objects that hold much: what is built then shows nothing of what was before. */
    private static void clearForgetsAll() {
        for (Shown.Question question : Shown.ALL) {
            String due = question.ask(clearedAndBuilt(States::fresh));
            Check.same("cleared: some", due, question.ask(clearedAndBuilt(States::some)));
            Check.same("cleared: full", due, question.ask(clearedAndBuilt(States::full)));
        }
    }
}
