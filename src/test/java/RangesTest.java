/**
 * Each range that the document names: the first and the last number that is taken, and the nearest
 * and the farthest ones that are refused, on both sides.
 */
public final class RangesTest {
    private interface Taker {
        void take(CrossRounds x, int number);
    }

    public static void main(String[] args) {
        earlyIsFrom0To1000000();
        lateIsFrom0To1000000();
        earlyIsNotAboveLate();
        slopeIsFrom0To10000();
        shareIsFrom1To1000();
        anotherShareIsFrom1To1000();
        delayIsFrom0To100000();
        keptAreFrom1To8();
        heightOfARowIsFrom0To100000();
        throughIsFrom0To100000();
        roundsAreFrom1To50();
        netsAreFrom0();
        ofOneNetThereIsOnlyNet0();
        withoutNetsThereIsNoNet();
        roundsThatWereMadeAreFrom0();
        placesOfSourcesAreFrom0();
        whatIsFrom0To4();
        Check.end();
    }

    private static void takes(String what, States.Maker maker, int least, int greatest, Taker taker) {
        for (int number : new int[] {least, greatest}) {
            Check.throwsNothing(what + " " + number, () -> taker.take(maker.make(), number));
        }
    }

    private static int[] beyond(int least, int greatest) {
        return new int[] {least - 1, greatest + 1, Integer.MIN_VALUE, Integer.MAX_VALUE};
    }

    private static void argument(String what, States.Maker maker, int least, int greatest, Taker taker) {
        takes(what, maker, least, greatest, taker);
        for (int number : beyond(least, greatest)) {
            Check.throwsArgument(what + " " + number, () -> taker.take(maker.make(), number));
        }
    }

    private static void place(String what, States.Maker maker, int least, int greatest, Taker taker) {
        takes(what, maker, least, greatest, taker);
        noPlace(what, maker, taker, beyond(least, greatest));
    }

    private static void noPlace(String what, States.Maker maker, Taker taker, int... numbers) {
        for (int number : numbers) {
            Check.throwsIndex(what + " " + number, () -> taker.take(maker.make(), number));
        }
    }

    private static CrossRounds two() {
        return States.withNets(2);
    }

    private static CrossRounds three() {
        return States.withNets(3);
    }

    /** "EARLY, LATE (0 .. 1000000 ..)" */
    private static void earlyIsFrom0To1000000() {
        argument("early", States::fresh, 0, 1000000, (x, early) -> x.net(early, 1000000, 0));
        CrossRounds x = new CrossRounds();
        x.net(0, 1000000, 0);
        x.net(1000000, 1000000, 0);
        x.run(1, false);
        Check.same("the least early", 0, x.early(0));
        Check.same("the greatest early", 1000000, x.early(1));
        Check.throwsArgument("both above", () -> x.net(1000001, 1000001, 0));
        Check.throwsArgument("both below", () -> x.net(-1, -1, 0));
    }

    /** "EARLY, LATE (0 .. 1000000 ..)" */
    private static void lateIsFrom0To1000000() {
        argument("late", States::fresh, 0, 1000000, (x, late) -> x.net(0, late, 0));
        CrossRounds x = new CrossRounds();
        x.net(0, 0, 0);
        x.net(0, 1000000, 0);
        x.run(1, false);
        Check.same("the least late", 0, x.late(0));
        Check.same("the greatest late", 1000000, x.late(1));
    }

    /** "EARLY not above LATE" */
    private static void earlyIsNotAboveLate() {
        for (int late : new int[] {0, 1, 500, 999999}) {
            Check.same("early " + late + " as late", 0, new CrossRounds().net(late, late, 0));
            Check.throwsArgument("early above late " + late, () -> new CrossRounds().net(late + 1, late, 0));
        }
        Check.same("both the greatest", 0, new CrossRounds().net(1000000, 1000000, 0));
        Check.throwsArgument("the greatest early, the least late", () -> new CrossRounds().net(1000000, 0, 0));
    }

    /** "a SLOPE (0 .. 10000)" */
    private static void slopeIsFrom0To10000() {
        argument("slope", States::fresh, 0, 10000, (x, slope) -> x.net(0, 0, slope));
        CrossRounds x = new CrossRounds();
        x.net(0, 0, 0);
        x.net(0, 0, 10000);
        x.couple(0, 1, 1000);
        x.run(1, false);
        Check.same("by the greatest slope and share", 10000, x.added(0));
        Check.same("by the least slope", 0, x.added(1));
    }

    /** "a SHARE (1 .. 1000)" */
    private static void shareIsFrom1To1000() {
        argument("share", RangesTest::two, 1, 1000, (x, share) -> x.couple(0, 1, share));
        for (int share : new int[] {1, 1000}) {
            CrossRounds x = two();
            x.couple(1, 0, share);
            Check.same("height by share " + share, share, x.height(0));
        }
    }

    private static CrossRounds coupled() {
        CrossRounds x = two();
        x.couple(0, 1, 500);
        return x;
    }

    /** "with a share (another one, if they were)": in the same range. */
    private static void anotherShareIsFrom1To1000() {
        argument("another share", RangesTest::coupled, 1, 1000, (x, share) -> x.couple(0, 1, share));
        for (int share : new int[] {1, 1000}) {
            CrossRounds x = coupled();
            Check.same("what the share was", 500, x.couple(1, 0, share));
            Check.same("height by another share " + share, share, x.height(1));
        }
    }

    /** "a DELAY (0 .. 100000)" */
    private static void delayIsFrom0To100000() {
        argument("delay", RangesTest::two, 0, 100000, (x, delay) -> x.stage(0, 1, delay));
        for (int delay : new int[] {0, 100000}) {
            CrossRounds x = two();
            x.stage(0, 1, delay);
            x.run(1, false);
            Check.same("early by delay " + delay, delay, x.early(1));
            Check.same("late by delay " + delay, 10 + delay, x.late(1));
        }
    }

    /** "IllegalArgumentException: n is not 1 .. 8." */
    private static void keptAreFrom1To8() {
        argument("keep", States::fresh, 1, 8, (x, n) -> x.keep(n));
        CrossRounds x = new CrossRounds();
        x.keep(1);
        Check.same("the least that is kept", 1, x.keep(8));
        Check.same("the greatest that is kept", 8, x.keep(1));
    }

    /** "heights that rise (0 .. 100000)" */
    private static void heightOfARowIsFrom0To100000() {
        argument("height", States::fresh, 0, 100000, (x, height) -> x.row(height, 0));
        CrossRounds x = two();
        x.stage(0, 1, 0);
        Check.yes("the least height", x.row(0, 5));
        Check.same("noise 0 is not below it", 5, x.noise(1));
        Check.yes("the greatest height", x.row(100000, 6));
        Check.same("noise 0 is below that", 5, x.noise(1));
        Check.same("rows", 2, x.count(4));
    }

    /** "what comes THROUGH (0 .. 100000)" */
    private static void throughIsFrom0To100000() {
        argument("through", States::fresh, 0, 100000, (x, through) -> x.row(0, through));
        for (int through : new int[] {0, 100000}) {
            CrossRounds x = three();
            x.stage(0, 1, 0);
            x.stage(1, 2, 0);
            x.row(0, through);
            Check.same("noise by through " + through, through, x.noise(1));
            Check.same("and on", through, x.noise(2));
        }
    }

    /** "IllegalArgumentException: rounds are not 1 .. 50." */
    private static void roundsAreFrom1To50() {
        argument("rounds from the least", RangesTest::two, 1, 50, (x, rounds) -> x.run(rounds, false));
        argument("rounds from the widest", RangesTest::two, 1, 50, (x, rounds) -> x.run(rounds, true));
        argument("rounds without nets", States::fresh, 1, 50, (x, rounds) -> x.run(rounds, true));
    }

    /** "IndexOutOfBoundsException: there is no such net", of some nets and of as many as can be. */
    private static void netsAreFrom0() {
        for (int nets : new int[] {3, 40}) {
            States.Maker maker = () -> States.withNets(nets);
            int last = nets - 1;
            place("couple(a, 1)", maker, 0, last, (x, a) -> x.couple(a, 1, 5));
            place("couple(1, b)", maker, 0, last, (x, b) -> x.couple(1, b, 5));
            place("exclude(a, 1)", maker, 0, last, (x, a) -> x.exclude(a, 1));
            place("exclude(1, b)", maker, 0, last, (x, b) -> x.exclude(1, b));
            place("stage(from, 1)", maker, 0, last, (x, from) -> x.stage(from, 1, 5));
            place("stage(1, to)", maker, 0, last, (x, to) -> x.stage(1, to, 5));
            placesOfOneNet(maker, last);
        }
    }

    private static void placesOfOneNet(States.Maker maker, int last) {
        place("early", maker, 0, last, (x, net) -> x.early(net));
        place("late", maker, 0, last, (x, net) -> x.late(net));
        place("added", maker, 0, last, (x, net) -> x.added(net));
        place("source", maker, 0, last, (x, net) -> x.source(net, 0));
        place("height", maker, 0, last, (x, net) -> x.height(net));
        place("noise", maker, 0, last, (x, net) -> x.noise(net));
    }

    private static void ofOneNetThereIsOnlyNet0() {
        placesOfOneNet(() -> States.withNets(1), 0);
    }

    private static void withoutNetsThereIsNoNet() {
        for (States.Maker maker : new States.Maker[] {States::fresh, States::cleared}) {
            int[] none = {0, -1, 1, 6, 39, Integer.MIN_VALUE, Integer.MAX_VALUE};
            noPlace("couple", maker, (x, a) -> x.couple(a, 0, 5), none);
            noPlace("couple", maker, (x, b) -> x.couple(0, b, 5), none);
            noPlace("exclude", maker, (x, a) -> x.exclude(a, 0), none);
            noPlace("exclude", maker, (x, b) -> x.exclude(0, b), none);
            noPlace("stage", maker, (x, from) -> x.stage(from, 0, 5), none);
            noPlace("stage", maker, (x, to) -> x.stage(0, to, 5), none);
            noPlace("early", maker, (x, net) -> x.early(net), none);
            noPlace("late", maker, (x, net) -> x.late(net), none);
            noPlace("added", maker, (x, net) -> x.added(net), none);
            noPlace("source", maker, (x, net) -> x.source(net, 0), none);
            noPlace("height", maker, (x, net) -> x.height(net), none);
            noPlace("noise", maker, (x, net) -> x.noise(net), none);
        }
    }

    private static CrossRounds withTwoRounds() {
        CrossRounds x = coupled();
        x.run(50, false);
        return x;
    }

    /** "IndexOutOfBoundsException: there was no such round." */
    private static void roundsThatWereMadeAreFrom0() {
        place("changed", RangesTest::withTwoRounds, 0, 1, (x, r) -> x.changed(r));
        CrossRounds x = withTwoRounds();
        Check.same("the first round", 2, x.changed(0));
        Check.same("the last round", 0, x.changed(1));
        noPlace("changed before a run", RangesTest::coupled, (y, r) -> y.changed(r), 0, -1, 1, 49);
    }

    /** "NONE if it has not so many. IndexOutOfBoundsException: also k is below 0." */
    private static void placesOfSourcesAreFrom0() {
        takes("k", RangesTest::coupled, 0, Integer.MAX_VALUE, (x, k) -> x.source(0, k));
        noPlace("k", RangesTest::coupled, (x, k) -> x.source(0, k), -1, Integer.MIN_VALUE);
        CrossRounds x = coupled();
        Check.same("the last source", 1, x.source(0, 0));
        Check.same("one behind it", -1, x.source(0, 1));
        Check.same("the farthest behind it", -1, x.source(0, Integer.MAX_VALUE));
    }

    /** "what = 0 nets .. 4 rows of the table. IndexOutOfBoundsException." */
    private static void whatIsFrom0To4() {
        place("what", States::fresh, 0, 4, (x, what) -> x.count(what));
        place("what", States::full, 0, 4, (x, what) -> x.count(what));
    }
}
