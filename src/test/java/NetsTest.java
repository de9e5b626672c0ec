/** Promises 1 to 6, 16 and 17: what is held, its limits, and calls that throw. */
public final class NetsTest {
    public static void main(String[] args) {
        newObjectIsEmpty();
        netsHaveNumbersAndRanges();
        netsHaveALimit();
        couplesAnswerTheOldShare();
        couplesHaveRanges();
        couplesHaveALimit();
        exclusionsAreOfPairs();
        stagesHaveNumbers();
        stagesHaveRanges();
        stagesLeadNoNetBack();
        stagesHaveALimit();
        keepAnswersTheOldOne();
        countsHaveRanges();
        clearMakesAllNew();
        Check.end();
    }

    private static CrossRounds withNets(int nets) {
        CrossRounds x = new CrossRounds();
        for (int i = 0; i < nets; i++) {
            Check.same("net", i, x.net(i, i + 10, 100));
        }
        return x;
    }

    private static void counts(String when, CrossRounds x, int... due) {
        for (int what = 0; what < due.length; what++) {
            Check.same(when + ": count(" + what + ")", due[what], x.count(what));
        }
    }

    private static void newObjectIsEmpty() {
        CrossRounds x = new CrossRounds();
        counts("new", x, 0, 0, 0, 0, 0);
        Check.throwsIndex("new: early(0)", () -> x.early(0));
        Check.throwsIndex("new: changed(0)", () -> x.changed(0));
        Check.same("new: keep", 4, x.keep(5));
        CrossRounds y = new CrossRounds();
        Check.same("objects share nothing: keep", 4, y.keep(4));
        Check.same("objects share nothing: net", 0, y.net(0, 0, 0));
        counts("objects share nothing", x, 0, 0, 0, 0, 0);
    }

    private static void netsHaveNumbersAndRanges() {
        CrossRounds x = new CrossRounds();
        Check.same("net, least", 0, x.net(0, 0, 0));
        Check.same("net, greatest", 1, x.net(1000000, 1000000, 10000));
        Check.same("net, wide", 2, x.net(0, 1000000, 5));
        Check.throwsArgument("early below", () -> x.net(-1, 0, 0));
        Check.throwsArgument("both below", () -> x.net(-2, -1, 0));
        Check.throwsArgument("late above", () -> x.net(0, 1000001, 0));
        Check.throwsArgument("early above late", () -> x.net(6, 5, 0));
        Check.throwsArgument("slope below", () -> x.net(0, 0, -1));
        Check.throwsArgument("slope above", () -> x.net(0, 0, 10001));
        Check.throwsArgument("least int", () -> x.net(Integer.MIN_VALUE, Integer.MIN_VALUE, 0));
        counts("wrong nets", x, 3, 0, 0, 0, 0);
    }

    private static void netsHaveALimit() {
        CrossRounds x = withNets(40);
        Check.throwsState("net 40", () -> x.net(0, 0, 0));
        Check.throwsArgument("net 40 that is wrong too", () -> x.net(1, 0, 0));
        counts("40 nets", x, 40, 0, 0, 0, 0);
        Check.throwsIndex("early(40)", () -> x.early(40));
        Check.same("early(39)", -1, x.early(39));
    }

    private static void couplesAnswerTheOldShare() {
        CrossRounds x = withNets(3);
        Check.same("new couple", 0, x.couple(0, 1, 1));
        Check.same("another share", 1, x.couple(0, 1, 1000));
        Check.same("from the other side", 1000, x.couple(1, 0, 7));
        Check.same("another pair", 0, x.couple(2, 1, 9));
        Check.same("the first again", 7, x.couple(0, 1, 7));
        counts("couples", x, 3, 2, 0, 0, 0);
        Check.same("height of both sides", 16, x.height(1));
        Check.same("height of one side", 7, x.height(0));
    }

    private static void couplesHaveRanges() {
        CrossRounds x = withNets(2);
        Check.throwsIndex("a below", () -> x.couple(-1, 0, 5));
        Check.throwsIndex("a above", () -> x.couple(2, 0, 5));
        Check.throwsIndex("b below", () -> x.couple(0, -1, 5));
        Check.throwsIndex("b above", () -> x.couple(0, 2, 5));
        Check.throwsIndex("b above and a share too", () -> x.couple(0, 2, 0));
        Check.throwsIndex("the same, and none", () -> x.couple(2, 2, 5));
        Check.throwsArgument("the same", () -> x.couple(1, 1, 5));
        Check.throwsArgument("share below", () -> x.couple(0, 1, 0));
        Check.throwsArgument("share above", () -> x.couple(0, 1, 1001));
        counts("wrong couples", x, 2, 0, 0, 0, 0);
        x.couple(0, 1, 5);
        Check.throwsArgument("share above, of a couple", () -> x.couple(0, 1, 1001));
        Check.same("the share stays", 5, x.couple(0, 1, 6));
    }

    private static void couplesHaveALimit() {
        CrossRounds x = withNets(40);
        int made = 0;
        for (int a = 0; a < 40 && made < 120; a++) {
            for (int b = a + 1; b < 40 && made < 120; b++) {
                Check.same("couple", 0, x.couple(a, b, 1 + made));
                made++;
            }
        }
        int height = x.height(39);
        Check.throwsState("couple 121", () -> x.couple(38, 39, 5));
        Check.throwsArgument("couple 121, wrong share", () -> x.couple(38, 39, 0));
        Check.throwsArgument("couple 121, the same net", () -> x.couple(39, 39, 5));
        Check.throwsIndex("couple 121, no net", () -> x.couple(38, 40, 5));
        Check.same("no height came of it", height, x.height(39));
        Check.same("another share when all are there", 1, x.couple(0, 1, 500));
        Check.same("and again", 500, x.couple(1, 0, 501));
        counts("120 couples", x, 40, 120, 0, 0, 0);
    }

    private static void exclusionsAreOfPairs() {
        CrossRounds x = withNets(4);
        Check.yes("exclude", x.exclude(0, 1));
        Check.no("exclude again", x.exclude(0, 1));
        Check.no("exclude from the other side", x.exclude(1, 0));
        Check.yes("exclude another pair", x.exclude(3, 1));
        Check.throwsIndex("a below", () -> x.exclude(-1, 0));
        Check.throwsIndex("a above", () -> x.exclude(4, 0));
        Check.throwsIndex("b below", () -> x.exclude(0, -1));
        Check.throwsIndex("b above", () -> x.exclude(0, 4));
        Check.throwsIndex("the same, and none", () -> x.exclude(4, 4));
        Check.throwsArgument("the same", () -> x.exclude(2, 2));
        counts("exclusions", x, 4, 0, 2, 0, 0);
        CrossRounds y = withNets(40);
        for (int a = 0; a < 40; a++) {
            for (int b = a + 1; b < 40; b += 2) {
                Check.yes("exclude " + a + " " + b, y.exclude(b, a));
            }
        }
        counts("many exclusions", y, 40, 0, 400, 0, 0);
    }

    private static void stagesHaveNumbers() {
        CrossRounds x = withNets(3);
        Check.same("stage 0", 0, x.stage(0, 1, 0));
        Check.same("stage 1, the same way", 1, x.stage(0, 1, 100000));
        Check.same("stage 2", 2, x.stage(1, 2, 5));
        Check.same("stage 3", 3, x.stage(0, 2, 5));
        counts("stages", x, 3, 0, 0, 4, 0);
    }

    private static void stagesHaveRanges() {
        CrossRounds x = withNets(2);
        Check.throwsIndex("from below", () -> x.stage(-1, 0, 5));
        Check.throwsIndex("from above", () -> x.stage(2, 0, 5));
        Check.throwsIndex("to below", () -> x.stage(0, -1, 5));
        Check.throwsIndex("to above", () -> x.stage(0, 2, -5));
        Check.throwsIndex("the same, and none", () -> x.stage(2, 2, 5));
        Check.throwsArgument("the same", () -> x.stage(1, 1, 5));
        Check.throwsArgument("delay below", () -> x.stage(0, 1, -1));
        Check.throwsArgument("delay above", () -> x.stage(0, 1, 100001));
        counts("wrong stages", x, 2, 0, 0, 0, 0);
        x.stage(0, 1, 1);
        Check.throwsArgument("back, with a wrong delay", () -> x.stage(1, 0, -1));
    }

    private static void stagesLeadNoNetBack() {
        CrossRounds x = withNets(40);
        for (int i = 39; i > 0; i--) {
            Check.same("stage", 39 - i, x.stage(i, i - 1, 1));
        }
        Check.same("back over one", -1, x.stage(38, 39, 1));
        Check.same("back over all", -1, x.stage(0, 39, 1));
        Check.same("back over some", -1, x.stage(5, 20, 1));
        counts("no stage came of it", x, 40, 0, 0, 39, 0);
        Check.same("ahead over some", 39, x.stage(20, 5, 1));
        CrossRounds y = withNets(6);
        y.stage(0, 1, 1);
        y.stage(2, 3, 1);
        y.stage(4, 5, 1);
        y.stage(1, 2, 1);
        Check.same("back over chains that were joined", -1, y.stage(3, 0, 1));
        Check.same("the other chain", 4, y.stage(3, 4, 1));
        Check.same("back from the end", -1, y.stage(5, 0, 1));
        Check.same("back into the middle", -1, y.stage(5, 2, 1));
    }

    private static void stagesHaveALimit() {
        CrossRounds x = withNets(3);
        for (int i = 0; i < 80; i++) {
            Check.same("stage", i, x.stage(0, 1, i));
        }
        Check.throwsState("stage 81", () -> x.stage(0, 1, 5));
        Check.throwsState("stage 81 that leads back", () -> x.stage(1, 0, 5));
        Check.throwsArgument("stage 81, wrong delay", () -> x.stage(0, 1, -5));
        Check.throwsIndex("stage 81, no net", () -> x.stage(0, 3, 5));
        counts("80 stages", x, 3, 0, 0, 80, 0);
    }

    private static void keepAnswersTheOldOne() {
        CrossRounds x = new CrossRounds();
        Check.same("keep", 4, x.keep(1));
        Check.same("keep", 1, x.keep(8));
        Check.throwsArgument("keep(0)", () -> x.keep(0));
        Check.throwsArgument("keep(9)", () -> x.keep(9));
        Check.throwsArgument("keep(-1)", () -> x.keep(-1));
        Check.same("keep stays", 8, x.keep(8));
    }

    private static void countsHaveRanges() {
        CrossRounds x = withNets(5);
        x.couple(0, 1, 5);
        x.couple(0, 2, 5);
        x.couple(0, 3, 5);
        x.exclude(0, 1);
        x.exclude(0, 4);
        x.stage(0, 1, 1);
        x.row(1, 1);
        x.row(2, 1);
        x.row(3, 1);
        x.row(4, 1);
        counts("all", x, 5, 3, 2, 1, 4);
        Check.throwsIndex("count(5)", () -> x.count(5));
        Check.throwsIndex("count(-1)", () -> x.count(-1));
        Check.throwsIndex("count(least)", () -> x.count(Integer.MIN_VALUE));
    }

    private static void clearMakesAllNew() {
        CrossRounds x = withNets(3);
        x.couple(0, 1, 5);
        x.exclude(0, 2);
        x.stage(0, 1, 5);
        x.row(10, 10);
        x.keep(7);
        x.run(3, true);
        x.clear();
        counts("clear", x, 0, 0, 0, 0, 0);
        Check.throwsIndex("clear: early(0)", () -> x.early(0));
        Check.throwsIndex("clear: changed(0)", () -> x.changed(0));
        Check.same("clear: keep", 4, x.keep(4));
        for (int i = 0; i < 40; i++) {
            Check.same("clear: net", i, x.net(0, 0, 1));
        }
        Check.same("clear: early", -1, x.early(0));
        Check.same("clear: late", -1, x.late(0));
        Check.same("clear: added", 0, x.added(0));
        Check.same("clear: couple", 0, x.couple(0, 1, 9));
        Check.same("clear: source", 1, x.source(0, 0));
        Check.yes("clear: exclude", x.exclude(0, 2));
        Check.same("clear: stage back", 0, x.stage(1, 0, 5));
        Check.same("clear: noise without rows", 9, x.noise(0));
        Check.yes("clear: a lower row", x.row(1, 1));
        x.clear();
        x.clear();
        counts("clear twice", x, 0, 0, 0, 0, 0);
    }
}
