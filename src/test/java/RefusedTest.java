/**
 * "A call that throws changes nothing": of two objects that are made alike, one is asked for what
 * it must refuse, and then both show the same. So do calls that answer NONE or false instead.
 */
public final class RefusedTest {
    private static final String INDEX = "IndexOutOfBoundsException";
    private static final String ARGUMENT = "IllegalArgumentException";
    private static final String STATE = "IllegalStateException";

    private interface Call {
        Object make(CrossRounds x);
    }

    private final String when;
    private final States.Maker maker;
    /** How many nets there are: the first number that is none. */
    private final int nets;

    private RefusedTest(String when, States.Maker maker) {
        this.when = when;
        this.maker = maker;
        nets = maker.make().count(0);
    }

    public static void main(String[] args) {
        RefusedTest[] all = {
            new RefusedTest("fresh", States::fresh),
            new RefusedTest("cleared", States::cleared),
            new RefusedTest("some", States::some),
            new RefusedTest("full", States::full)
        };
        for (RefusedTest each : all) {
            each.numbersOutOfRange();
            each.netsThatAreNot();
            each.placesThatAreNot();
        }
        RefusedTest some = all[2];
        some.theSameNetTwice();
        some.rangesOfPairs();
        some.answersThatRefuse();
        RefusedTest full = all[3];
        full.theSameNetTwice();
        full.rangesOfPairs();
        full.asManyAsThereCanBe();
        Check.end();
    }

    private void refused(String what, String due, Call call) {
        for (Shown.Question question : Shown.ALL) {
            CrossRounds asked = maker.make();
            String got = Shown.answer(() -> call.make(asked)).trim();
            Check.same(when + ": " + what, due, got);
            Check.same(when + ": behind " + what, question.ask(maker.make()), question.ask(asked));
        }
    }

    private void numbersOutOfRange() {
        refused("EARLY -1", ARGUMENT, x -> x.net(-1, 5, 5));
        refused("EARLY above LATE", ARGUMENT, x -> x.net(6, 5, 5));
        refused("LATE 1000001", ARGUMENT, x -> x.net(0, 1000001, 5));
        refused("SLOPE -1", ARGUMENT, x -> x.net(0, 5, -1));
        refused("SLOPE 10001", ARGUMENT, x -> x.net(0, 5, 10001));
        refused("keep(0)", ARGUMENT, x -> x.keep(0));
        refused("keep(9)", ARGUMENT, x -> x.keep(9));
        refused("height -1", ARGUMENT, x -> x.row(-1, 5));
        refused("height 100001", ARGUMENT, x -> x.row(100001, 5));
        refused("through -1", ARGUMENT, x -> x.row(700, -1));
        refused("through 100001", ARGUMENT, x -> x.row(700, 100001));
        refused("run(0, least)", ARGUMENT, x -> x.run(0, false));
        refused("run(0, widest)", ARGUMENT, x -> x.run(0, true));
        refused("run(51, least)", ARGUMENT, x -> x.run(51, false));
        refused("run(51, widest)", ARGUMENT, x -> x.run(51, true));
    }

    private void netsThatAreNot() {
        for (int net : new int[] {-1, nets}) {
            refused("couple(" + net + ", 0)", INDEX, x -> x.couple(net, 0, 5));
            refused("couple(0, " + net + ")", INDEX, x -> x.couple(0, net, 5));
            refused("exclude(" + net + ", 0)", INDEX, x -> x.exclude(net, 0));
            refused("exclude(0, " + net + ")", INDEX, x -> x.exclude(0, net));
            refused("stage(" + net + ", 0)", INDEX, x -> x.stage(net, 0, 5));
            refused("stage(0, " + net + ")", INDEX, x -> x.stage(0, net, 5));
            refused("early(" + net + ")", INDEX, x -> x.early(net));
            refused("late(" + net + ")", INDEX, x -> x.late(net));
            refused("added(" + net + ")", INDEX, x -> x.added(net));
            refused("source(" + net + ", 0)", INDEX, x -> x.source(net, 0));
            refused("height(" + net + ")", INDEX, x -> x.height(net));
            refused("noise(" + net + ")", INDEX, x -> x.noise(net));
        }
    }

    private void placesThatAreNot() {
        refused("changed(-1)", INDEX, x -> x.changed(-1));
        refused("changed(50)", INDEX, x -> x.changed(50));
        refused("source(0, -1)", INDEX, x -> x.source(0, -1));
        refused("count(-1)", INDEX, x -> x.count(-1));
        refused("count(5)", INDEX, x -> x.count(5));
    }

    private void theSameNetTwice() {
        refused("couple of one", ARGUMENT, x -> x.couple(1, 1, 5));
        refused("exclude of one", ARGUMENT, x -> x.exclude(1, 1));
        refused("stage of one", ARGUMENT, x -> x.stage(1, 1, 5));
    }

    private void rangesOfPairs() {
        refused("share 0 of a couple", ARGUMENT, x -> x.couple(0, 2, 0));
        refused("share 1001 of a couple", ARGUMENT, x -> x.couple(0, 2, 1001));
        refused("share 0 of a new couple", ARGUMENT, x -> x.couple(0, 4, 0));
        refused("share 1001 of a new couple", ARGUMENT, x -> x.couple(0, 4, 1001));
        refused("delay -1", ARGUMENT, x -> x.stage(0, 4, -1));
        refused("delay 100001", ARGUMENT, x -> x.stage(0, 4, 100001));
    }

    private void answersThatRefuse() {
        refused("a stage straight back", "-1", x -> x.stage(3, 0, 5));
        refused("a stage back over two", "-1", x -> x.stage(4, 0, 5));
        refused("a row of the last one's height", "false", x -> x.row(600, 9));
        refused("a row below the last one", "false", x -> x.row(599, 9));
        refused("exclude again", "false", x -> x.exclude(5, 0));
        refused("a source too many", "-1", x -> x.source(0, 3));
    }

    private void asManyAsThereCanBe() {
        refused("a net more", STATE, x -> x.net(0, 0, 0));
        refused("a couple more", STATE, x -> x.couple(0, 20, 5));
        refused("a couple more, of excluded nets", STATE, x -> x.couple(20, 30, 5));
        refused("a stage more", STATE, x -> x.stage(0, 20, 5));
        refused("a stage more that leads back", STATE, x -> x.stage(20, 0, 5));
        refused("a row more", STATE, x -> x.row(100000, 5));
        refused("a row more that does not rise", STATE, x -> x.row(0, 5));
    }
}
