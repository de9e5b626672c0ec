/** Promises 8 to 12: rounds, spans, what is added, and how many changed. */
public final class RunTest {
    public static void main(String[] args) {
        runsHaveRanges();
        runWithoutNets();
        spansWithoutStages();
        spansAlongStages();
        spansOfReversedNumbers();
        eachDelayIsRoundedDown();
        spansMeetAtOneNumber();
        widestIsNotLeast();
        keptAreOfThoseThatMeet();
        widestKeepsTheStrongestOfAll();
        roundsGoOnUntilNothingChanges();
        roundsAreCutOff();
        aStrongerOneTakesThePlace();
        excludedOnesAddNothing();
        answersAreOfTheLatestRun();
        answersHaveRanges();
        Check.end();
    }

    private static void spans(String when, CrossRounds x, int net, int early, int late, int added) {
        Check.same(when + ": early(" + net + ")", early, x.early(net));
        Check.same(when + ": late(" + net + ")", late, x.late(net));
        Check.same(when + ": added(" + net + ")", added, x.added(net));
    }

    private static void changes(String when, CrossRounds x, int... due) {
        for (int r = 0; r < due.length; r++) {
            Check.same(when + ": changed(" + r + ")", due[r], x.changed(r));
        }
        Check.throwsIndex(when + ": no round more", () -> x.changed(due.length));
    }

    private static void runsHaveRanges() {
        CrossRounds x = new CrossRounds();
        x.net(1, 2, 3);
        Check.throwsArgument("run(0)", () -> x.run(0, true));
        Check.throwsArgument("run(51)", () -> x.run(51, false));
        Check.throwsArgument("run(-1)", () -> x.run(-1, false));
        spans("no run", x, 0, -1, -1, 0);
        changes("no run", x);
        Check.same("run(50)", 1, x.run(50, false));
        Check.throwsArgument("run(51) behind a run", () -> x.run(51, false));
        changes("one run", x, 0);
        spans("one run", x, 0, 1, 2, 0);
    }

    private static void runWithoutNets() {
        CrossRounds x = new CrossRounds();
        Check.same("no nets", 1, x.run(50, true));
        changes("no nets", x, 0);
        x.net(1, 2, 3);
        spans("a net behind", x, 0, -1, -1, 0);
    }

    private static void spansWithoutStages() {
        CrossRounds x = new CrossRounds();
        x.net(0, 1000000, 10000);
        x.net(1000000, 1000000, 10000);
        x.couple(0, 1, 1000);
        Check.same("greatest", 2, x.run(9, false));
        spans("greatest", x, 0, 0, 1010000, 10000);
        spans("greatest", x, 1, 1000000, 1010000, 10000);
        changes("greatest", x, 2, 0);
    }

    private static void spansAlongStages() {
        CrossRounds x = new CrossRounds();
        x.net(10, 20, 1000);
        x.net(5, 50, 1000);
        x.net(7, 7, 1000);
        x.net(999, 999, 1000);
        x.net(100, 110, 2000);
        x.stage(0, 2, 100);
        x.stage(1, 2, 30);
        x.stage(0, 2, 90);
        x.stage(2, 3, 1);
        x.run(1, true);
        spans("two ways", x, 2, 35, 120, 0);
        spans("on", x, 3, 36, 121, 0);
        x.couple(2, 4, 10);
        x.couple(0, 1, 3);
        x.run(5, true);
        spans("added on the way", x, 0, 10, 23, 3);
        spans("added on the way", x, 1, 5, 53, 3);
        spans("added twice", x, 2, 35, 143, 20);
        spans("added three times", x, 3, 36, 144, 0);
        spans("the other", x, 4, 100, 120, 10);
    }

    private static void spansOfReversedNumbers() {
        CrossRounds x = new CrossRounds();
        for (int i = 0; i < 40; i++) {
            x.net(i, i + 1, 0);
        }
        for (int i = 0; i < 39; i++) {
            x.stage(i + 1, i, 100000);
        }
        x.run(1, true);
        for (int i = 0; i < 40; i++) {
            spans("chain", x, i, 39 + 100000 * (39 - i), 40 + 100000 * (39 - i), 0);
        }
    }

    private static void eachDelayIsRoundedDown() {
        CrossRounds x = new CrossRounds();
        x.net(0, 10, 0);
        x.net(0, 10, 999);
        x.net(0, 10, 1999);
        x.net(0, 10, 999);
        x.couple(0, 1, 1);
        x.couple(0, 2, 1);
        x.couple(0, 3, 3);
        x.run(1, true);
        spans("0 and 1 and 2", x, 0, 0, 13, 3);
        x.run(1, false);
        spans("0 and 1 and 2", x, 0, 0, 13, 3);
    }

    private static void spansMeetAtOneNumber() {
        CrossRounds x = new CrossRounds();
        x.net(10, 20, 1000);
        x.net(20, 30, 1000);
        x.net(31, 40, 1000);
        x.net(15, 16, 1000);
        x.couple(0, 1, 5);
        x.couple(1, 2, 7);
        x.couple(0, 3, 2);
        x.run(1, false);
        spans("the end meets a beginning", x, 0, 10, 27, 7);
        spans("the beginning meets an end", x, 1, 20, 35, 5);
        spans("one apart", x, 2, 31, 40, 0);
        spans("within another", x, 3, 15, 18, 2);
        changes("one round", x, 3);
        Check.same("rounds", 3, x.run(9, false));
        spans("what was added brought them together", x, 1, 20, 42, 12);
        spans("what was added brought them together", x, 2, 31, 47, 7);
        changes("three rounds", x, 3, 2, 0);
    }

    private static void widestIsNotLeast() {
        CrossRounds x = new CrossRounds();
        x.net(0, 10, 1000);
        x.net(15, 20, 1000);
        x.couple(0, 1, 8);
        Check.same("least", 1, x.run(9, false));
        spans("least", x, 0, 0, 10, 0);
        spans("least", x, 1, 15, 20, 0);
        Check.same("widest", 1, x.run(9, true));
        spans("widest", x, 0, 0, 18, 8);
        spans("widest", x, 1, 15, 28, 8);
        x.couple(0, 1, 4);
        Check.same("widest, and yet apart", 2, x.run(9, true));
        changes("widest, and yet apart", x, 2, 0);
        spans("widest, and yet apart", x, 0, 0, 10, 0);
    }

    private static void keptAreOfThoseThatMeet() {
        CrossRounds x = new CrossRounds();
        x.net(0, 10, 0);
        x.net(500, 510, 1000);
        x.net(5, 6, 1000);
        x.net(600, 610, 1000);
        x.net(7, 8, 1000);
        x.net(9, 9, 1000);
        x.couple(0, 1, 100);
        x.couple(0, 2, 50);
        x.couple(0, 3, 40);
        x.couple(0, 4, 20);
        x.couple(0, 5, 10);
        x.keep(2);
        x.run(9, false);
        spans("those that do not meet take no place", x, 0, 0, 80, 70);
        x.keep(8);
        x.run(9, false);
        spans("all that meet", x, 0, 0, 90, 80);
        Check.same("the height is of all", 150, kept(x, 2));
    }

    private static int kept(CrossRounds x, int n) {
        x.keep(n);
        return x.height(0);
    }

    private static void widestKeepsTheStrongestOfAll() {
        CrossRounds x = new CrossRounds();
        x.net(0, 10, 0);
        x.net(100, 100, 1000);
        x.net(100, 100, 1000);
        x.net(100, 100, 1000);
        x.couple(0, 1, 50);
        x.couple(0, 2, 30);
        x.couple(0, 3, 20);
        x.keep(2);
        // 10 + 80 does not reach 100; with the third one it would
        Check.same("the kept ones do not reach", 2, x.run(9, true));
        changes("the kept ones do not reach", x, 1, 0);
        spans("the kept ones do not reach", x, 0, 0, 10, 0);
        x.keep(3);
        Check.same("all three reach", 1, x.run(9, true));
        changes("all three reach", x, 0);
        spans("all three reach", x, 0, 0, 110, 100);
    }

    private static void roundsGoOnUntilNothingChanges() {
        CrossRounds x = new CrossRounds();
        // each net reaches the next one only when the one before has reached it
        for (int i = 0; i < 12; i++) {
            x.net(10 * i, 10 * i + (i == 0 ? 10 : 5), 1000);
        }
        for (int i = 0; i < 11; i++) {
            x.couple(i, i + 1, 6);
        }
        Check.same("one after another", 12, x.run(50, false));
        changes("one after another", x, 2, 2, 2, 2, 2, 2, 2, 2, 2, 2, 2, 0);
        spans("the first", x, 0, 0, 16, 6);
        spans("a middle one", x, 5, 50, 67, 12);
        spans("the last", x, 11, 110, 121, 6);
    }

    private static void roundsAreCutOff() {
        CrossRounds x = new CrossRounds();
        for (int i = 0; i < 12; i++) {
            x.net(10 * i, 10 * i + (i == 0 ? 10 : 5), 1000);
        }
        for (int i = 0; i < 11; i++) {
            x.couple(i, i + 1, 6);
        }
        Check.same("cut off", 3, x.run(3, false));
        changes("cut off", x, 2, 2, 2);
        spans("spans are with what the last round added", x, 3, 30, 41, 6);
        spans("not reached", x, 4, 40, 45, 0);
        Check.same("a run begins anew", 1, x.run(1, false));
        changes("a run begins anew", x, 2);
        spans("a run begins anew", x, 3, 30, 35, 0);
        Check.same("exactly enough", 12, x.run(12, false));
        Check.same("the last one missing", 11, x.run(11, false));
    }

    private static void aStrongerOneTakesThePlace() {
        CrossRounds x = new CrossRounds();
        // net 0 meets net 2 at first, and then, by what that adds, the stronger net 1 too
        x.net(0, 10, 1000);
        x.net(12, 14, 1000);
        x.net(3, 4, 5000);
        x.couple(0, 1, 9);
        x.couple(0, 2, 1);
        x.keep(1);
        Check.same("grows", 3, x.run(50, false));
        changes("grows", x, 2, 2, 0);
        spans("grows", x, 0, 0, 19, 9);
        spans("grows", x, 1, 12, 23, 9);
        spans("grows", x, 2, 3, 5, 1);
    }

    private static void excludedOnesAddNothing() {
        CrossRounds x = new CrossRounds();
        x.net(0, 10, 1000);
        x.net(0, 10, 1000);
        x.net(0, 10, 1000);
        x.couple(0, 1, 9);
        x.couple(0, 2, 5);
        x.exclude(1, 0);
        x.run(1, true);
        spans("widest", x, 0, 0, 15, 5);
        spans("widest", x, 1, 0, 10, 0);
        changes("widest", x, 0);
        x.run(1, false);
        spans("least", x, 0, 0, 15, 5);
        spans("least", x, 1, 0, 10, 0);
        changes("least", x, 2);
    }

    private static void answersAreOfTheLatestRun() {
        CrossRounds x = new CrossRounds();
        x.net(0, 10, 1000);
        x.net(0, 10, 1000);
        x.couple(0, 1, 9);
        x.run(9, false);
        x.couple(0, 1, 90);
        x.keep(1);
        x.exclude(0, 1);
        x.stage(0, 1, 500);
        x.net(4, 5, 6);
        spans("not run again", x, 0, 0, 19, 9);
        spans("not run again", x, 1, 0, 19, 9);
        spans("came behind", x, 2, -1, -1, 0);
        changes("not run again", x, 2, 0);
        x.noise(1);
        spans("noise changes no span", x, 1, 0, 19, 9);
        x.run(9, false);
        spans("run again", x, 0, 0, 10, 0);
        spans("run again", x, 1, 500, 510, 0);
        spans("run again", x, 2, 4, 5, 0);
        changes("run again", x, 0);
    }

    private static void answersHaveRanges() {
        CrossRounds x = new CrossRounds();
        x.net(0, 0, 0);
        x.run(1, true);
        for (int net : new int[] {-1, 1, 40, Integer.MAX_VALUE, Integer.MIN_VALUE}) {
            Check.throwsIndex("early(" + net + ")", () -> x.early(net));
            Check.throwsIndex("late(" + net + ")", () -> x.late(net));
            Check.throwsIndex("added(" + net + ")", () -> x.added(net));
            Check.throwsIndex("changed(" + net + ")", () -> x.changed(net));
        }
    }
}
