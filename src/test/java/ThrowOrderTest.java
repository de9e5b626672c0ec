/** "Methods throw what their comments name, the one named first when several would do." */
public final class ThrowOrderTest {
    private static final int NO_NET = 40;

    public static void main(String[] args) {
        argumentBeforeStateInNet();
        indexFirstInCouple();
        argumentBeforeStateInCouple();
        indexBeforeArgumentInExclude();
        indexFirstInStage();
        argumentBeforeStateInStage();
        stateBeforeTheAnswerNone();
        argumentBeforeStateInRow();
        stateBeforeTheAnswerFalse();
        argumentBeforeTheAnswers();
        indexOfEitherPlaceInSource();
        Check.end();
    }

    private static void argumentBeforeStateInNet() {
        CrossRounds x = States.full();
        Check.throwsState("full alone", () -> x.net(0, 0, 0));
        Check.throwsArgument("early", () -> x.net(-1, 0, 0));
        Check.throwsArgument("late", () -> x.net(0, 1000001, 0));
        Check.throwsArgument("early above late", () -> x.net(1, 0, 0));
        Check.throwsArgument("slope below", () -> x.net(0, 0, -1));
        Check.throwsArgument("slope above", () -> x.net(0, 0, 10001));
    }

    private static void indexFirstInCouple() {
        CrossRounds x = States.full();
        Check.throwsIndex("no net, and full", () -> x.couple(0, NO_NET, 5));
        Check.throwsIndex("no net, full, a wrong share", () -> x.couple(0, NO_NET, 0));
        Check.throwsIndex("no net first, full, a wrong share", () -> x.couple(-1, 0, 1001));
        Check.throwsIndex("the same that is none", () -> x.couple(NO_NET, NO_NET, 5));
        Check.throwsIndex("the same below, a wrong share", () -> x.couple(-1, -1, 0));
        CrossRounds y = States.withNets(2);
        Check.throwsIndex("the same that is none, not full", () -> y.couple(2, 2, 5));
        Check.throwsIndex("no net, a wrong share, not full", () -> y.couple(2, 0, 0));
    }

    private static void argumentBeforeStateInCouple() {
        CrossRounds x = States.full();
        Check.throwsState("full alone", () -> x.couple(0, 20, 5));
        Check.throwsArgument("the same net", () -> x.couple(20, 20, 5));
        Check.throwsArgument("share below", () -> x.couple(0, 20, 0));
        Check.throwsArgument("share above", () -> x.couple(0, 20, 1001));
        Check.throwsArgument("share of a couple", () -> x.couple(0, 1, 1001));
    }

    private static void indexBeforeArgumentInExclude() {
        CrossRounds x = States.withNets(2);
        Check.throwsArgument("the same net alone", () -> x.exclude(1, 1));
        Check.throwsIndex("the same that is none", () -> x.exclude(2, 2));
        Check.throwsIndex("the same below", () -> x.exclude(-1, -1));
    }

    private static void indexFirstInStage() {
        CrossRounds x = States.full();
        Check.throwsIndex("no net, and full", () -> x.stage(0, NO_NET, 5));
        Check.throwsIndex("no net, full, a wrong delay", () -> x.stage(0, NO_NET, -1));
        Check.throwsIndex("no net first, full, a wrong delay", () -> x.stage(-1, 0, 100001));
        Check.throwsIndex("the same that is none", () -> x.stage(NO_NET, NO_NET, 5));
        Check.throwsIndex("the same below, a wrong delay", () -> x.stage(-1, -1, -1));
        CrossRounds y = States.withNets(2);
        Check.throwsIndex("the same that is none, not full", () -> y.stage(2, 2, 5));
        Check.throwsIndex("no net, a wrong delay, not full", () -> y.stage(2, 0, -1));
    }

    private static void argumentBeforeStateInStage() {
        CrossRounds x = States.full();
        Check.throwsState("full alone", () -> x.stage(0, 20, 5));
        Check.throwsArgument("the same net", () -> x.stage(20, 20, 5));
        Check.throwsArgument("delay below", () -> x.stage(0, 20, -1));
        Check.throwsArgument("delay above", () -> x.stage(0, 20, 100001));
        Check.throwsArgument("delay above, and it leads back", () -> x.stage(20, 0, 100001));
    }

    private static void stateBeforeTheAnswerNone() {
        CrossRounds x = States.full();
        Check.throwsState("straight back", () -> x.stage(1, 0, 5));
        Check.throwsState("back over all", () -> x.stage(39, 0, 5));
    }

    private static void argumentBeforeStateInRow() {
        CrossRounds x = States.full();
        Check.throwsState("full alone", () -> x.row(100000, 5));
        Check.throwsArgument("height below", () -> x.row(-1, 5));
        Check.throwsArgument("height above", () -> x.row(100001, 5));
        Check.throwsArgument("through below", () -> x.row(100000, -1));
        Check.throwsArgument("through above", () -> x.row(100000, 100001));
    }

    private static void stateBeforeTheAnswerFalse() {
        CrossRounds x = States.full();
        Check.throwsState("the last one's height", () -> x.row(1900, 5));
        Check.throwsState("the least height", () -> x.row(0, 5));
    }

    private static void argumentBeforeTheAnswers() {
        CrossRounds x = States.some();
        Check.throwsArgument("a stage back with a wrong delay", () -> x.stage(3, 0, -1));
        Check.throwsArgument("a row that does not rise, wrong height", () -> x.row(-1, 5));
        Check.throwsArgument("a row that does not rise, wrong through", () -> x.row(600, -1));
    }

    private static void indexOfEitherPlaceInSource() {
        CrossRounds x = States.some();
        Check.throwsIndex("no net", () -> x.source(7, 0));
        Check.throwsIndex("no place", () -> x.source(0, -1));
        Check.throwsIndex("neither", () -> x.source(7, -1));
        Check.throwsIndex("no net, and a source too many", () -> x.source(7, 100));
    }
}
