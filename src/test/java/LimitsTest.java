/** Empty and full: of each thing that the document limits, the last that there can be and one more. */
public final class LimitsTest {
    public static void main(String[] args) {
        netsAre40AtMost();
        couplesAre120AtMost();
        ofTwoNetsThereIsOneCoupleAtMost();
        excludedPairsHaveNoLimitOfTheirOwn();
        stagesAre80AtMost();
        rowsAre20AtMost();
        rowsThatDoNotRiseTakeNoPlace();
        stagesThatLeadBackTakeNoPlace();
        aRunOf50RoundsIsCutOff();
        aRunOf50RoundsMayEndByItself();
        aRunOf1RoundIsCutOff();
        sourcesAre39AtMost();
        atMost8SourcesDoSomething();
        the512thCallStillAnswers();
        greatestNumbersTogether();
        fullIsFullAgainAfterClear();
        Check.end();
    }

    private static void counts(String when, CrossRounds x, int... due) {
        for (int what = 0; what < due.length; what++) {
            Check.same(when + ": count(" + what + ")", due[what], x.count(what));
        }
    }

    /** "NETS 0, 1, .. (40 at most)" */
    private static void netsAre40AtMost() {
        CrossRounds x = new CrossRounds();
        for (int i = 0; i < 40; i++) {
            Check.same("nets so far", i, x.count(0));
            Check.same("net", i, x.net(i, i, i));
        }
        Check.throwsState("net 40", () -> x.net(0, 0, 0));
        Check.throwsState("net 40 again", () -> x.net(1000000, 1000000, 10000));
        counts("40 nets", x, 40, 0, 0, 0, 0);
        x.run(1, false);
        Check.same("the last net", 39, x.early(39));
        Check.throwsIndex("no net behind it", () -> x.early(40));
    }

    /** "COUPLES, 120 at most" */
    private static void couplesAre120AtMost() {
        CrossRounds x = States.withNets(40);
        for (int i = 0; i < 120; i++) {
            Check.same("couples so far", i, x.count(1));
            Check.same("couple", 0, x.couple(i % 40, (i + 1 + i / 40) % 40, 5));
        }
        Check.throwsState("couple 121", () -> x.couple(0, 20, 5));
        Check.throwsState("couple 121, the other way round", () -> x.couple(20, 0, 5));
        Check.same("another share takes no place", 5, x.couple(0, 1, 6));
        Check.same("nor does it free one", 6, x.couple(1, 0, 1000));
        Check.throwsState("couple 121 still", () -> x.couple(0, 20, 5));
        Check.yes("excluding a couple", x.exclude(0, 1));
        Check.throwsState("frees none either", () -> x.couple(0, 20, 5));
        counts("120 couples", x, 40, 120, 1, 0, 0);
    }

    /** "of two nets there is one at most" */
    private static void ofTwoNetsThereIsOneCoupleAtMost() {
        CrossRounds x = States.withNets(2);
        for (int i = 1; i <= 200; i++) {
            Check.same("what the share was", i - 1, x.couple(i % 2, 1 - i % 2, i));
        }
        counts("one couple", x, 2, 1, 0, 0, 0);
        Check.same("one source", 1, x.source(0, 0));
        Check.same("no other one", -1, x.source(0, 1));
        Check.same("one share", 200, x.height(0));
    }

    private static void excludedPairsHaveNoLimitOfTheirOwn() {
        CrossRounds x = States.withNets(30);
        int pairs = 0;
        for (int a = 0; a < 30; a++) {
            for (int b = 0; b < a; b++) {
                Check.yes("exclude " + a + " " + b, x.exclude(a, b));
                pairs++;
            }
        }
        Check.no("none is left", x.exclude(0, 29));
        counts("all pairs", x, 30, 0, pairs, 0, 0);
    }

    /** "STAGES, 80 at most" */
    private static void stagesAre80AtMost() {
        CrossRounds x = States.withNets(40);
        for (int i = 0; i < 80; i++) {
            Check.same("stages so far", i, x.count(3));
            Check.same("stage", i, x.stage(i % 20, 20 + i / 4, 100000));
        }
        Check.throwsState("stage 80", () -> x.stage(0, 39, 5));
        Check.throwsState("stage 80 that leads back", () -> x.stage(20, 0, 5));
        counts("80 stages", x, 40, 0, 0, 80, 0);
        x.run(1, false);
        Check.same("the last stage leads", 100000, x.early(39));
    }

    /** "THE TABLE has up to 20 rows"; "IllegalStateException: there are 20." */
    private static void rowsAre20AtMost() {
        CrossRounds x = States.withNets(3);
        x.couple(0, 1, 20);
        x.stage(0, 2, 0);
        for (int i = 1; i <= 20; i++) {
            Check.same("rows so far", i - 1, x.count(4));
            Check.yes("row", x.row(i, 1000 + i));
        }
        Check.throwsState("row 21", () -> x.row(21, 5));
        Check.throwsState("row 21, the greatest", () -> x.row(100000, 100000));
        Check.throwsState("row 21 that does not rise", () -> x.row(20, 5));
        counts("20 rows", x, 3, 1, 0, 1, 20);
        Check.same("the last row counts", 1020, x.noise(2));
        x.couple(0, 1, 1);
        Check.same("the first row counts", 1001, x.noise(2));
    }

    private static void rowsThatDoNotRiseTakeNoPlace() {
        CrossRounds x = new CrossRounds();
        x.row(50, 1);
        for (int i = 0; i < 50; i++) {
            Check.no("row " + i, x.row(i, 2));
        }
        for (int i = 51; i < 70; i++) {
            Check.yes("row " + i, x.row(i, 3));
        }
        counts("20 rows", x, 0, 0, 0, 0, 20);
    }

    private static void stagesThatLeadBackTakeNoPlace() {
        CrossRounds x = States.withNets(2);
        x.stage(0, 1, 1);
        for (int i = 0; i < 100; i++) {
            Check.same("back", -1, x.stage(1, 0, i));
        }
        Check.same("ahead", 1, x.stage(0, 1, 1));
        counts("two stages", x, 2, 0, 0, 2, 0);
    }

    private static void rounds(String when, CrossRounds x, int made, int changing) {
        for (int r = 0; r < made; r++) {
            Check.same(when + ": changed(" + r + ")", r < changing ? 2 : 0, x.changed(r));
        }
        Check.throwsIndex(when + ": no round more", () -> x.changed(made));
    }

    /** "TO RUN, so many rounds at most" */
    private static void aRunOf50RoundsIsCutOff() {
        // 28 couples in each group, one between them: 57 rounds would change something
        CrossRounds x = States.unravelling(8, 8);
        Check.same("cut off at 50", 50, x.run(50, true));
        rounds("cut off at 50", x, 50, 50);
        Check.same("net 11 holds net 12 alone", 100, x.added(11));
        Check.same("net 12 holds all behind it too", 400, x.added(12));
        Check.same("net 13 has lost net 11", 300, x.added(13));
        Check.same("cut off at 49", 49, x.run(49, true));
        rounds("cut off at 49", x, 49, 49);
        Check.same("net 13 still holds net 11", 400, x.added(13));
    }

    /** "It is the last one if no ADDED became another one." */
    private static void aRunOf50RoundsMayEndByItself() {
        // 28 + 1 + 15 couples and five more in a row: 49 rounds change something
        CrossRounds x = States.unravelling(8, 6, 1, 1, 1, 1, 1);
        Check.same("exactly 50", 50, x.run(50, true));
        rounds("exactly 50", x, 50, 49);
        Check.same("nothing is left", 0, x.added(18));
        Check.same("the last one missing", 49, x.run(49, true));
        rounds("the last one missing", x, 49, 49);
        Check.same("nothing is left", 0, x.added(18));
        CrossRounds y = States.unravelling(8, 6, 1, 1, 1, 1);
        Check.same("one below 50", 49, y.run(50, true));
        rounds("one below 50", y, 49, 48);
        CrossRounds z = States.unravelling(8, 6, 1, 1, 1, 1, 1, 1);
        Check.same("51 would be needed", 50, z.run(50, true));
        rounds("51 would be needed", z, 50, 50);
    }

    private static void aRunOf1RoundIsCutOff() {
        CrossRounds x = States.unravelling(3);
        Check.same("one round", 1, x.run(1, true));
        rounds("one round", x, 1, 1);
        Check.same("two rounds", 2, x.run(2, true));
        rounds("two rounds", x, 2, 2);
        Check.same("as many as are needed", 4, x.run(4, true));
        rounds("as many as are needed", x, 4, 3);
        Check.same("no more than are needed", 4, x.run(5, true));
        rounds("no more than are needed", x, 4, 3);
    }

    private static void sourcesAre39AtMost() {
        CrossRounds x = States.withNets(40);
        for (int i = 1; i < 40; i++) {
            x.couple(0, i, i);
        }
        for (int k = 0; k < 39; k++) {
            Check.same("source " + k, 39 - k, x.source(0, k));
        }
        Check.same("no source behind the last net", -1, x.source(0, 39));
        Check.same("nor behind that", -1, x.source(0, 40));
    }

    /** "the first KEPT (1 .. 8; 4 at first) of those that count do something" */
    private static void atMost8SourcesDoSomething() {
        for (int sources = 0; sources <= 9; sources++) {
            CrossRounds x = States.withNets(1 + sources);
            for (int i = 1; i <= sources; i++) {
                x.couple(0, i, 10);
            }
            Check.same("4 at first, of " + sources, 10 * Math.min(sources, 4), x.height(0));
            for (int kept = 1; kept <= 8; kept++) {
                int due = 10 * Math.min(sources, kept);
                x.keep(kept);
                Check.same(kept + " kept of " + sources, due, x.height(0));
                x.run(50, false);
                Check.same("added by " + kept + " of " + sources, due, x.added(0));
                x.run(50, true);
                Check.same("added from the widest by " + kept + " of " + sources, due, x.added(0));
            }
        }
    }

    /** "An object is used for at most 512 calls after it has been made" */
    private static void the512thCallStillAnswers() {
        CrossRounds x = States.full();
        for (int call = 264; call < 511; call++) {
            x.run(50, call % 2 == 0);
        }
        Check.same("the 512th call, behind many runs", beginOfTheLast(), x.early(39));
        CrossRounds y = new CrossRounds();
        for (int call = 0; call < 510; call += 2) {
            Check.same("a net", 0, y.net(0, 1000000, 0));
            y.clear();
        }
        Check.same("the 511th call", 0, y.net(3, 4, 5));
        Check.same("the 512th call", 1, y.net(3, 4, 5));
    }

    /** The least way to net 39 along the stages of a full object. */
    private static int beginOfTheLast() {
        int[] least = new int[40];
        for (int to = 1; to < 40; to++) {
            least[to] = least[to - 1] + 7 * (to - 1);
            if (to >= 2) {
                least[to] = Math.min(least[to], least[to - 2] + 9 * (to - 2));
            }
        }
        return least[39];
    }

    private static void greatestNumbersTogether() {
        CrossRounds x = new CrossRounds();
        x.net(0, 1000000, 10000);
        for (int i = 1; i < 40; i++) {
            x.net(1000000, 1000000, 10000);
        }
        for (int i = 1; i < 39; i++) {
            x.stage(i == 1 ? 0 : i, i + 1, 100000);
        }
        for (int source = 1; source < 40; source++) {
            x.couple(0, source, 1000);
        }
        x.keep(8);
        x.row(0, 100000);
        x.run(50, true);
        Check.same("eight times the greatest", 80000, x.added(0));
        Check.same("the greatest end of a net", 1080000, x.late(0));
        Check.same("the begin of the last", 38 * 100000, x.early(39));
        // nets 2 to 11 begin within the span of net 0, and 10000 is added to each of these
        Check.same("the end of the last", 1080000 + 38 * 100000 + 10 * 10000, x.late(39));
        Check.same("the greatest height", 8000, x.height(0));
        Check.same("noise of the first", 8000, x.noise(0));
        Check.same("noise of the last", 101000, x.noise(39));
    }

    private static void fullIsFullAgainAfterClear() {
        CrossRounds x = new CrossRounds();
        for (int time = 0; time < 2; time++) {
            for (int i = 0; i < 40; i++) {
                Check.same("net", i, x.net(0, 0, 0));
            }
            for (int i = 0; i < 80; i++) {
                Check.same("stage", i, x.stage(0, 1, 0));
            }
            for (int i = 0; i < 20; i++) {
                Check.yes("row", x.row(i, 0));
            }
            Check.throwsState("net 40", () -> x.net(0, 0, 0));
            Check.throwsState("stage 80", () -> x.stage(0, 1, 0));
            Check.throwsState("row 20", () -> x.row(99, 0));
            counts("full", x, 40, 0, 0, 80, 20);
            x.clear();
            counts("cleared", x, 0, 0, 0, 0, 0);
        }
        CrossRounds y = new CrossRounds();
        for (int time = 0; time < 2; time++) {
            for (int i = 0; i < 16; i++) {
                y.net(0, 0, 0);
                for (int earlier = 0; earlier < i; earlier++) {
                    Check.same("couple", 0, y.couple(earlier, i, 1));
                }
            }
            y.net(0, 0, 0);
            Check.throwsState("couple 121", () -> y.couple(0, 16, 1));
            Check.same("120 couples", 120, y.count(1));
            y.clear();
        }
    }
}
