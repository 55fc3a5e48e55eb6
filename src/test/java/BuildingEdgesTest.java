/** The edges of promises 1 to 6, by which a flow is built: a test for each sentence that names one. */
public final class BuildingEdgesTest extends Checks {
    public static void main(String[] args) {
        newHasTwoNodesAndNoSteps();
        newHasReadNoLog();
        newIsEmptyElsewhere();
        flowTakesTwoToTwelve();
        flowIsWithoutSteps();
        flowIsWithoutLines();
        flowIsWithoutFaults();
        flowIsWithoutLog();
        flowLeavesTheTape();
        flowAfterTooMany();
        stepAnswersItsNumber();
        stepHasSuchNodes();
        stepLeadsUp();
        stepHasSuchCounted();
        stepIsOneOfSixteen();
        countedHasSuchSteps();
        countedHasSuchNumbers();
        countedAnew();
        lineHasSuchSteps();
        lineIsSo();
        linesStandOnAllOrNone();
        faultHasSuchNodes();
        faultIsSo();
        faultsAreAtAllOrNone();
        finish("BuildingEdgesTest");
    }

    private static void newHasTwoNodesAndNoSteps() {
        sentence("1: Two NODES, no STEPS");
        LogPlacer x = new LogPlacer();
        due("count(0)", x.count(0), 2);
        due("count(1)", x.count(1), 0);
        due("look(0, 0)", x.look(0, 0), NONE);
        due("counted(0, 0)", x.counted(0, 0), false);
        due("line(0, true)", x.line(0, true), false);
        due("price(1)", x.price(1), NONE);
        due("fault(2, true)", x.fault(2, true), false);
        due("fault(1, true)", x.fault(1, true), true);
        due("step(0, 2, 0)", x.step(0, 2, 0), NONE);
        due("step(0, 1, 0)", x.step(0, 1, 0), 0);
    }

    private static void newHasReadNoLog() {
        sentence("1: no LOG was READ");
        LogPlacer x = new LogPlacer();
        due("allowed(0), no way", x.allowed(0), NONE);
        due("found(1), no way", x.found(1), NONE);
        x.step(0, 1, 0);
        due("allowed(0), a way", x.allowed(0), NONE);
        for (int what = 0; what < 4; what++) {
            due("found(" + what + "), a way", x.found(what), NONE);
        }
        x.read(0, false);
        due("allowed(0), an empty log was read", x.allowed(0), 0);
    }

    private static void newIsEmptyElsewhere() {
        sentence("1: a new object has no WAYS, LINES, FAULTS, and nothing on the tape");
        LogPlacer x = new LogPlacer();
        for (int what = 2; what <= 5; what++) {
            due("count(" + what + ")", x.count(what), 0);
        }
        due("ways()", x.ways(), 0);
        due("way(0, 0)", x.way(0, 0), NONE);
        due("log(0, 0)", x.log(0, 0), NONE);
        due("heaps()", x.heaps(), 0);
        due("heap(0)", x.heap(0), NONE);
        due("apart(0)", x.apart(0), 1);
        due("apart(1)", x.apart(1), 1);
        due("cheapest(0, false)", x.cheapest(0, false), 0);
        due("cheapest(1, true)", x.cheapest(1, true), 0);
        due("price(0)", x.price(0), 0);
        due("useless(0)", x.useless(0), NONE);
        due("why(0, 0)", x.why(0, 0), NONE);
        due("read(1, true)", x.read(1, true), NONE);
    }

    private static void flowTakesTwoToTwelve() {
        sentence("2: true; false: no such number");
        int[] none = {1, 0, -1, -2, -12, 13, 14, 258, 65538, LEAST, LEAST + 2, MOST};
        for (int n : none) {
            LogPlacer x = new LogPlacer();
            due("flow(" + n + ")", x.flow(n), false);
            due("count(0) behind flow(" + n + ")", x.count(0), 2);
        }
        for (int n = 2; n <= 12; n++) {
            due("flow(" + n + ")", new LogPlacer().flow(n), true);
        }
    }

    private static void flowIsWithoutSteps() {
        sentence("2: A new FLOW of n NODES, without STEPS");
        LogPlacer x = full();
        due("ways() ahead", x.ways(), 32);
        due("flow(12), as many nodes", x.flow(12), true);
        due("count(1)", x.count(1), 0);
        due("look(0, 0)", x.look(0, 0), NONE);
        due("ways()", x.ways(), 0);
        due("heaps()", x.heaps(), 0);
        due("price(1)", x.price(1), NONE);
        for (int e = 0; e < 16; e++) {
            due("step(10, 11, 0)", x.step(10, 11, 0), e);
        }
        due("step(10, 11, 0), a seventeenth", x.step(10, 11, 0), NONE);
        due("ways(), no step from node 0", x.ways(), 0);
        LogPlacer turned = row(1, 1);
        turned.flow(3);
        turned.step(1, 2, 0);
        turned.step(0, 1, 0);
        due("way(0, 0), the steps lead otherwise than those ahead", turned.way(0, 0), 1);
        due("way(0, 1), the steps lead otherwise than those ahead", turned.way(0, 1), 0);
        due("way(0, 2), the steps lead otherwise than those ahead", turned.way(0, 2), NONE);
    }

    private static void flowIsWithoutLines() {
        sentence("2: A new FLOW of n NODES, without LINES");
        LogPlacer x = allLines(full());
        x.flow(2);
        due("count(2)", x.count(2), 0);
        due("count(4)", x.count(4), 0);
        for (int e = 0; e < 16; e++) {
            x.step(0, 1, 0);
            due("look(" + e + ", 3)", x.look(e, 3), 0);
        }
        due("heaps()", x.heaps(), 1);
        due("line(15, false)", x.line(15, false), false);
        due("line(15, true)", x.line(15, true), true);
    }

    private static void flowIsWithoutFaults() {
        sentence("2: A new FLOW of n NODES, without FAULTS");
        LogPlacer x = new LogPlacer();
        x.flow(12);
        for (int v = 0; v < 12; v++) {
            x.fault(v, true);
        }
        x.flow(12);
        due("count(3)", x.count(3), 0);
        for (int v = 0; v < 12; v++) {
            due("fault(" + v + ", false)", x.fault(v, false), false);
        }
    }

    private static void flowIsWithoutLog() {
        sentence("2: A new FLOW of n NODES, without LOG");
        LogPlacer x = small();
        x.read(0, true);
        due("allowed(0) ahead", x.allowed(0), 0);
        x.flow(2);
        x.step(0, 1, 0);
        due("allowed(0)", x.allowed(0), NONE);
        for (int what = 0; what < 4; what++) {
            due("found(" + what + ")", x.found(what), NONE);
        }
    }

    private static void flowLeavesTheTape() {
        sentence("2: the tape is not told among what a new FLOW is without");
        LogPlacer x = new LogPlacer();
        feedBytes(x, 1);
        feedBytes(x, 0);
        x.flow(2);
        due("count(5)", x.count(5), 40);
        x.step(0, 1, 0);
        x.step(0, 1, 0);
        lines(x, 1);
        due("read(1, false)", x.read(1, false), 1);
        due("allowed(0)", x.allowed(0), 1);
    }

    private static void flowAfterTooMany() {
        sentence("2: A new FLOW where there were TOO MANY");
        LogPlacer x = withTooMany();
        due("ways() ahead", x.ways(), TOO_MANY);
        due("flow(2)", x.flow(2), true);
        due("ways()", x.ways(), 0);
        due("heaps()", x.heaps(), 0);
        due("read(0, true)", x.read(0, true), 0);
        x.step(0, 1, 0);
        due("ways() with a step", x.ways(), 1);
    }

    private static void stepAnswersItsNumber() {
        sentence("3: A STEP from NODE a to NODE b: its number");
        LogPlacer x = new LogPlacer();
        x.flow(12);
        due("step(0, 11, 0), the farthest", x.step(0, 11, 0), 0);
        due("step(0, 1, 0), the first", x.step(0, 1, 0), 1);
        due("step(10, 11, 1000000), the last", x.step(10, 11, 1000000), 2);
        int[][] looks = {{0, 11, 0, 0}, {0, 1, 0, 0}, {10, 11, 1000000, 0}};
        for (int e = 0; e < 3; e++) {
            for (int what = 0; what < 4; what++) {
                due("look(" + e + ", " + what + ")", x.look(e, what), looks[e][what]);
            }
        }
    }

    private static void stepHasSuchNodes() {
        sentence("3: NONE: no such ones");
        LogPlacer x = new LogPlacer();
        int[][] none = {
            {-1, 0}, {-1, 1}, {-1, 11}, {LEAST, 0}, {LEAST, MOST}, {0, 2}, {1, 2}, {0, MOST}, {2, 3}, {0, 32}
        };
        for (int[] nodes : none) {
            due("step(" + nodes[0] + ", " + nodes[1] + ") of 2", x.step(nodes[0], nodes[1], 0), NONE);
        }
        due("step(0, 1) of 2", x.step(0, 1, 0), 0);
        x.flow(12);
        due("step(0, 12) of 12", x.step(0, 12, 0), NONE);
        due("step(11, 12) of 12", x.step(11, 12, 0), NONE);
        due("step(-1, 11) of 12", x.step(-1, 11, 0), NONE);
        due("step(0, 11) of 12", x.step(0, 11, 0), 0);
        x.flow(11);
        due("step(0, 11) of 11, there where 12 were", x.step(0, 11, 0), NONE);
        due("step(0, 10) of 11", x.step(0, 10, 0), 0);
    }

    private static void stepLeadsUp() {
        sentence("3: NONE: b not above a");
        LogPlacer x = new LogPlacer();
        x.flow(12);
        for (int a = 0; a < 12; a++) {
            due("step(" + a + ", " + a + ")", x.step(a, a, 0), NONE);
            due("step(" + a + ", " + (a - 1) + ")", x.step(a, a - 1, 0), NONE);
        }
        due("step(11, 0)", x.step(11, 0, 0), NONE);
        due("count(1)", x.count(1), 0);
        for (int a = 0; a < 11; a++) {
            due("step(" + a + ", " + (a + 1) + ")", x.step(a, a + 1, 0), a);
        }
    }

    private static void stepHasSuchCounted() {
        sentence("3: NONE: no such COUNTED");
        LogPlacer x = new LogPlacer();
        int[] none = {-1, -1000000, LEAST, 1000001, MOST};
        for (int c : none) {
            due("step(0, 1, " + c + ")", x.step(0, 1, c), NONE);
        }
        int[] some = {0, 1, 999999, 1000000};
        for (int e = 0; e < some.length; e++) {
            due("step(0, 1, " + some[e] + ")", x.step(0, 1, some[e]), e);
            due("look(" + e + ", 2)", x.look(e, 2), some[e]);
        }
    }

    private static void stepIsOneOfSixteen() {
        sentence("3: NONE: 16 are there");
        LogPlacer x = sideBySide(15);
        due("step(0, 1, 3), the sixteenth", x.step(0, 1, 3), 15);
        due("step(0, 1, 4), the seventeenth", x.step(0, 1, 4), NONE);
        due("step(0, 1, 4) again", x.step(0, 1, 4), NONE);
        due("count(1)", x.count(1), 16);
        due("look(15, 2)", x.look(15, 2), 3);
        due("look(16, 2)", x.look(16, 2), NONE);
        due("ways()", x.ways(), 16);
    }

    private static void countedHasSuchSteps() {
        sentence("4: false: no such ones (STEPS)");
        LogPlacer x = new LogPlacer();
        due("counted(0, 5), no steps", x.counted(0, 5), false);
        x = small();
        int[] none = {-1, 6, 7, 15, 16, 32, 37, LEAST, MOST};
        for (int e : none) {
            due("counted(" + e + ", 9)", x.counted(e, 9), false);
        }
        due("price(63) behind them", x.price(63), 23);
        due("counted(0, 9), the first", x.counted(0, 9), true);
        due("counted(5, 9), the last", x.counted(5, 9), true);
        due("price(63)", x.price(63), 36);
        LogPlacer all = full();
        due("counted(15, 9) of 16", all.counted(15, 9), true);
        due("counted(16, 9) of 16", all.counted(16, 9), false);
        due("price(65535)", all.price(65535), 25);
    }

    private static void countedHasSuchNumbers() {
        sentence("4: false: no such ones (COUNTED)");
        LogPlacer x = small();
        int[] none = {-1, LEAST, 1000001, MOST};
        for (int n : none) {
            due("counted(0, " + n + ")", x.counted(0, n), false);
            due("look(0, 2)", x.look(0, 2), 5);
        }
        int[] some = {0, 1, 999999, 1000000};
        for (int n : some) {
            due("counted(0, " + n + ")", x.counted(0, n), true);
            due("look(0, 2)", x.look(0, 2), n);
        }
    }

    private static void countedAnew() {
        sentence("4: STEP e is COUNTED anew: true");
        LogPlacer x = small();
        due("counted(0, 5), as it is", x.counted(0, 5), true);
        due("look(0, 2), as it is", x.look(0, 2), 5);
        due("cheapest(0, false) ahead", x.cheapest(0, false), 42);
        due("counted(0, 0)", x.counted(0, 0), true);
        due("counted(1, 1000000)", x.counted(1, 1000000), true);
        due("cheapest(0, false), anew", x.cheapest(0, false), 41);
        due("look(1, 0), its nodes stay", x.look(1, 0), 0);
        due("look(1, 1), its nodes stay", x.look(1, 1), 2);
        due("price(60), the others stay", x.price(60), 13);
        lines(x, 1);
        x.read(0, true);
        due("counted(1, 0), with a line", x.counted(1, 0), true);
        due("look(1, 3), its line stays", x.look(1, 3), 1);
        due("count(4), its line stays", x.count(4), 1);
        due("allowed(4), the log stays", x.allowed(4), 4);
    }

    private static void lineHasSuchSteps() {
        sentence("5: false: no such one");
        LogPlacer x = small();
        int[] none = {-1, 6, 7, 15, 16, 31, 32, 37, -32, LEAST, MOST};
        for (int e : none) {
            due("line(" + e + ", true)", x.line(e, true), false);
            due("line(" + e + ", false)", x.line(e, false), false);
        }
        due("count(2)", x.count(2), 0);
        due("line(0, true), the first", x.line(0, true), true);
        due("line(5, true), the last", x.line(5, true), true);
        for (int e : none) {
            due("line(" + e + ", false) with lines", x.line(e, false), false);
        }
        due("count(2)", x.count(2), 2);
        LogPlacer all = full();
        due("line(15, true) of 16", all.line(15, true), true);
        due("line(16, true) of 16", all.line(16, true), false);
    }

    private static void lineIsSo() {
        sentence("5: false: it is so");
        LogPlacer x = small();
        due("line(5, false), none stands", x.line(5, false), false);
        due("line(5, true)", x.line(5, true), true);
        due("line(5, true), one stands", x.line(5, true), false);
        due("look(5, 3)", x.look(5, 3), 1);
        due("line(5, false)", x.line(5, false), true);
        due("line(5, false), none stands any more", x.line(5, false), false);
        due("look(5, 3)", x.look(5, 3), 0);
    }

    private static void linesStandOnAllOrNone() {
        sentence("5: A LINE stands on STEP e (is), or not any more: true");
        LogPlacer x = full();
        for (int e = 0; e < 16; e++) {
            due("line(" + e + ", true)", x.line(e, true), true);
            due("count(2)", x.count(2), e + 1);
        }
        for (int e = 15; e >= 0; e--) {
            due("look(" + e + ", 3)", x.look(e, 3), 1);
            due("line(" + e + ", false)", x.line(e, false), true);
            due("look(" + e + ", 3)", x.look(e, 3), 0);
            due("count(2)", x.count(2), e);
        }
    }

    private static void faultHasSuchNodes() {
        sentence("6: false: no such one");
        LogPlacer x = small();
        int[] none = {-1, 4, 5, 11, 12, 31, 32, 35, -32, LEAST, MOST};
        for (int v : none) {
            due("fault(" + v + ", true)", x.fault(v, true), false);
            due("fault(" + v + ", false)", x.fault(v, false), false);
        }
        due("count(3)", x.count(3), 0);
        due("fault(0, true), the first", x.fault(0, true), true);
        due("fault(3, true), the last", x.fault(3, true), true);
        for (int v : none) {
            due("fault(" + v + ", false) with faults", x.fault(v, false), false);
        }
        due("count(3)", x.count(3), 2);
        LogPlacer all = full();
        due("fault(11, true) of 12", all.fault(11, true), true);
        due("fault(12, true) of 12", all.fault(12, true), false);
    }

    private static void faultIsSo() {
        sentence("6: false: it is so");
        LogPlacer x = small();
        due("fault(3, false), none is", x.fault(3, false), false);
        due("fault(3, true)", x.fault(3, true), true);
        due("fault(3, true), one is", x.fault(3, true), false);
        due("count(3)", x.count(3), 1);
        due("fault(3, false)", x.fault(3, false), true);
        due("fault(3, false), none is any more", x.fault(3, false), false);
        due("count(3)", x.count(3), 0);
    }

    private static void faultsAreAtAllOrNone() {
        sentence("6: A FAULT is at NODE v (is), or not any more: true");
        LogPlacer x = full();
        x.read(0, true);
        for (int v = 0; v < 12; v++) {
            due("fault(" + v + ", true)", x.fault(v, true), true);
            due("count(3)", x.count(3), v + 1);
        }
        due("found(2)", x.found(2), 4095);
        for (int v = 11; v >= 0; v--) {
            due("fault(" + v + ", false)", x.fault(v, false), true);
            due("count(3)", x.count(3), v);
        }
        due("found(3)", x.found(3), 0);
    }
}
