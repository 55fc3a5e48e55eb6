/** The edges that the document's Terms name: a test for each sentence that has one. */
public final class TermsEdgesTest extends Checks {
    public static void main(String[] args) {
        none();
        nodesFromTwoToTwelve();
        nodesAreNumberedFromZero();
        stepsAreZeroToFifteen();
        stepsLeadToGreaterNodes();
        severalStepsMayLeadAlike();
        waysGoFromTheFirstNodeToTheLast();
        waysAreInOrder();
        waysAreNumberedFromZero();
        tooManyAreMoreThanTwoHundred();
        countedIsZeroToAMillion();
        logsAreTheStepsWithLines();
        linesPartWaysOfUnlikeLogs();
        faultsAtTheFirstAndTheLastNode();
        noTwoWaysAreApart();
        priceIsOneMoreForEach();
        cheapestIsOfLeastPrice();
        cheapestHasFewestSteps();
        cheapestHasTheLowestStep();
        besideHasEachLine();
        uselessIfAsManyHeaps();
        whyIsTheFirstPair();
        tornLogsAreBeginnings();
        emptyTornLogAllowsAll();
        sureAndMaybe();
        memoryIsThePlacersOwn();
        fiveHundredAndTwelveCalls();
        finish("TermsEdgesTest");
    }

    private static void none() {
        sentence("NONE = -1");
        due("NONE", LogPlacer.NONE, -1);
    }

    private static void nodesFromTwoToTwelve() {
        sentence("n from 2 to 12; 2 at first");
        LogPlacer x = new LogPlacer();
        due("count(0) at first", x.count(0), 2);
        due("flow(1)", x.flow(1), false);
        due("count(0) behind flow(1)", x.count(0), 2);
        for (int n = 2; n <= 12; n++) {
            due("flow(" + n + ")", x.flow(n), true);
            due("count(0) behind flow(" + n + ")", x.count(0), n);
        }
        due("flow(13)", x.flow(13), false);
        due("count(0) behind flow(13)", x.count(0), 12);
    }

    private static void nodesAreNumberedFromZero() {
        sentence("NODES 0 to n - 1");
        for (int n = 2; n <= 12; n++) {
            LogPlacer x = new LogPlacer();
            x.flow(n);
            due("fault(-1) of " + n, x.fault(-1, true), false);
            due("fault(" + n + ") of " + n, x.fault(n, true), false);
            due("step(-1, 1) of " + n, x.step(-1, 1, 0), NONE);
            due("step(0, " + n + ") of " + n, x.step(0, n, 0), NONE);
            for (int v = 0; v < n; v++) {
                due("fault(" + v + ") of " + n, x.fault(v, true), true);
            }
            due("count(3) of " + n, x.count(3), n);
            due("step(0, " + (n - 1) + ") of " + n, x.step(0, n - 1, 0), 0);
            due("ways() of " + n, x.ways(), 1);
        }
    }

    private static void stepsAreZeroToFifteen() {
        sentence("STEPS 0 to 15");
        LogPlacer x = new LogPlacer();
        for (int e = 0; e < 16; e++) {
            due("line(" + e + ") ahead of the step", x.line(e, true), false);
            due("step(0, 1, " + e + ")", x.step(0, 1, e), e);
            due("line(" + e + ")", x.line(e, true), true);
        }
        due("step(0, 1, 16)", x.step(0, 1, 16), NONE);
        due("line(16)", x.line(16, true), false);
        due("count(1)", x.count(1), 16);
        due("count(2)", x.count(2), 16);
    }

    private static void stepsLeadToGreaterNodes() {
        sentence("each from a NODE to one of a greater number");
        LogPlacer x = new LogPlacer();
        for (int a = 0; a < 12; a++) {
            for (int b = 0; b < 12; b++) {
                x.flow(12);
                due("step(" + a + ", " + b + ")", x.step(a, b, 0), a < b ? 0 : NONE);
            }
        }
    }

    private static void severalStepsMayLeadAlike() {
        sentence("several may lead from one to another");
        LogPlacer x = new LogPlacer();
        for (int e = 0; e < 16; e++) {
            due("step(0, 1, 7)", x.step(0, 1, 7), e);
            due("ways()", x.ways(), e + 1);
        }
    }

    private static void waysGoFromTheFirstNodeToTheLast() {
        sentence("A WAY is a row of STEPS from NODE 0 to NODE n - 1");
        LogPlacer x = new LogPlacer();
        x.flow(4);
        x.step(1, 3, 0);
        due("ways() with a step from node 1", x.ways(), 0);
        x.step(0, 2, 0);
        due("ways() with a step to node 2", x.ways(), 0);
        x.step(1, 2, 0);
        due("ways() with a step between them", x.ways(), 0);
        x.step(2, 3, 0);
        due("ways() with a step on from node 2", x.ways(), 1);
        due("way(0, 0)", x.way(0, 0), 1);
        due("way(0, 1)", x.way(0, 1), 3);
        due("way(0, 2)", x.way(0, 2), NONE);
        x.step(0, 1, 0);
        due("ways() with a step to node 1", x.ways(), 3);
        due("way(1, 1)", x.way(1, 1), 0);
        due("way(2, 1)", x.way(2, 1), 2);
        due("way(2, 2)", x.way(2, 2), 3);
        due("way(2, 3)", x.way(2, 3), NONE);
    }

    private static void waysAreInOrder() {
        sentence("WAYS are in order: STEP by STEP, the lower number first");
        LogPlacer x = new LogPlacer();
        x.flow(4);
        x.step(2, 3, 0);
        x.step(1, 3, 0);
        x.step(1, 2, 0);
        x.step(0, 2, 0);
        x.step(0, 1, 0);
        x.step(0, 3, 0);
        x.step(2, 3, 0);
        int[][] ways = {{3, 0}, {3, 6}, {4, 1}, {4, 2, 0}, {4, 2, 6}, {5}};
        due("ways()", x.ways(), ways.length);
        for (int i = 0; i < ways.length; i++) {
            for (int k = 0; k < ways[i].length; k++) {
                due("way(" + i + ", " + k + ")", x.way(i, k), ways[i][k]);
            }
            due("way(" + i + ", " + ways[i].length + ")", x.way(i, ways[i].length), NONE);
        }
    }

    private static void waysAreNumberedFromZero() {
        sentence("they are numbered from 0 on");
        LogPlacer x = sideBySide(16);
        due("way(-1, 0)", x.way(-1, 0), NONE);
        for (int i = 0; i < 16; i++) {
            due("way(" + i + ", 0)", x.way(i, 0), i);
        }
        due("way(16, 0)", x.way(16, 0), NONE);
    }

    private static void tooManyAreMoreThanTwoHundred() {
        sentence("There are TOO MANY if there are more than 200");
        due("ways() of 200", withTwoHundred().ways(), 200);
        due("ways() of 204", withTooMany().ways(), TOO_MANY);
        LogPlacer x = new LogPlacer();
        x.flow(6);
        int[] from = {0, 0, 1, 1, 2, 2, 3, 3, 3, 3, 4, 4, 4, 4, 4};
        for (int v : from) {
            x.step(v, v + 1, 0);
        }
        due("ways() of 160", x.ways(), 160);
        x.step(3, 4, 0);
        due("ways() of 200, with another step", x.ways(), 200);
        LogPlacer y = beforeTooMany();
        due("ways() of 192", y.ways(), 192);
        y.step(0, 3, 0);
        due("ways() of 204, with another step", y.ways(), TOO_MANY);
    }

    private static void countedIsZeroToAMillion() {
        sentence("Each STEP is COUNTED (0 to 1000000)");
        LogPlacer x = new LogPlacer();
        due("step(0, 1, -1)", x.step(0, 1, -1), NONE);
        due("step(0, 1, 0)", x.step(0, 1, 0), 0);
        due("step(0, 1, 1000000)", x.step(0, 1, 1000000), 1);
        due("step(0, 1, 1000001)", x.step(0, 1, 1000001), NONE);
        due("look(0, 2)", x.look(0, 2), 0);
        due("look(1, 2)", x.look(1, 2), 1000000);
        due("counted(0, 1000000)", x.counted(0, 1000000), true);
        due("counted(1, 0)", x.counted(1, 0), true);
        due("counted(1, -1)", x.counted(1, -1), false);
        due("counted(0, 1000001)", x.counted(0, 1000001), false);
        due("look(0, 2)", x.look(0, 2), 1000000);
        due("look(1, 2)", x.look(1, 2), 0);
    }

    private static void logsAreTheStepsWithLines() {
        sentence("The LOG of a WAY are those of its STEPS on which LINES stand, in its order");
        LogPlacer x = new LogPlacer();
        x.flow(4);
        x.step(2, 3, 0);
        x.step(1, 2, 0);
        x.step(0, 1, 0);
        due("log(0, 0) without lines", x.log(0, 0), NONE);
        lines(x, 0, 2);
        due("log(0, 0)", x.log(0, 0), 2);
        due("log(0, 1)", x.log(0, 1), 0);
        due("log(0, 2)", x.log(0, 2), NONE);
        lines(x, 1);
        due("log(0, 1) with a line more", x.log(0, 1), 1);
        due("log(0, 2) with a line more", x.log(0, 2), 0);
        due("log(0, 3) with a line more", x.log(0, 3), NONE);
    }

    private static void linesPartWaysOfUnlikeLogs() {
        sentence("LINES PART two WAYS if their LOGS are unlike. A HEAP is all WAYS of one LOG");
        LogPlacer empty = lines(sideBySide(2), 1);
        due("heaps(), one log empty", empty.heaps(), 2);
        due("apart(0), one log empty", empty.apart(0), 1);
        LogPlacer begins = row(1, 2);
        lines(begins, 0, 2);
        due("heaps(), one log begins the other", begins.heaps(), 2);
        due("heap(1), one log begins the other", begins.heap(1), 1);
        LogPlacer like = row(2, 2);
        lines(like, 0, 1);
        due("heaps(), logs alike in twos", like.heaps(), 2);
        due("heap(1)", like.heap(1), 0);
        due("heap(2)", like.heap(2), 2);
        due("heap(3)", like.heap(3), 2);
        due("apart(0), logs alike in twos", like.apart(0), 0);
    }

    private static void faultsAtTheFirstAndTheLastNode() {
        sentence("those NODES of it (the first and the last, too) at which FAULTS are");
        LogPlacer x = small();
        x.read(0, true);
        x.fault(0, true);
        due("found(2), the first", x.found(2), 1);
        x.fault(0, false);
        x.fault(3, true);
        due("found(2), the last", x.found(2), 8);
        x.fault(0, true);
        due("found(3), both", x.found(3), 9);
        due("apart(1), both are on all ways", x.apart(1), 1);
        due("cheapest(1, false), both are on all ways", x.cheapest(1, false), 0);
    }

    private static void noTwoWaysAreApart() {
        sentence("LINES tell ALL WAYS apart if they PART each two");
        LogPlacer x = new LogPlacer();
        x.fault(0, true);
        due("apart(0), no way", x.apart(0), 1);
        due("apart(1), no way", x.apart(1), 1);
        x.step(0, 1, 0);
        due("apart(0), one way", x.apart(0), 1);
        due("apart(1), one way", x.apart(1), 1);
        due("cheapest(0, false), one way", x.cheapest(0, false), 0);
        x.step(0, 1, 0);
        due("apart(0), two ways", x.apart(0), 0);
        due("apart(1), two ways of like faults", x.apart(1), 1);
    }

    private static void priceIsOneMoreForEach() {
        sentence("THE PRICE: the sum of what they are COUNTED, and one more for each");
        LogPlacer x = new LogPlacer();
        due("price(0), no steps", x.price(0), 0);
        for (int e = 0; e < 16; e++) {
            x.step(0, 1, e % 2 == 0 ? 0 : 1000000);
        }
        due("price(0)", x.price(0), 0);
        due("price(1)", x.price(1), 1);
        due("price(2)", x.price(2), 1000001);
        due("price(65535)", x.price(65535), 8000016);
    }

    private static void cheapestIsOfLeastPrice() {
        sentence("THE CHEAPEST: that of least PRICE");
        LogPlacer x = sideBySide(3);
        x.counted(0, 1000000);
        x.counted(1, 999999);
        x.counted(2, 1000000);
        due("cheapest(0, false), step 0 or 2 is left out", x.cheapest(0, false), 3);
        x.counted(0, 999998);
        x.counted(2, 999998);
        due("cheapest(0, false), step 1 is left out", x.cheapest(0, false), 5);
        LogPlacer y = oneOrTwo(2);
        due("cheapest(1, false), two steps of less price", y.cheapest(1, false), 3);
    }

    private static void cheapestHasFewestSteps() {
        sentence("THE CHEAPEST: of like ones with fewest STEPS");
        LogPlacer x = oneOrTwo(1);
        due("cheapest(1, false), one step of like price", x.cheapest(1, false), 4);
        due("cheapest(0, false) has no choice", x.cheapest(0, false), 3);
        for (int behind = 0; behind < 4; behind++) {
            LogPlacer y = oneOrTwoInOrder(1, behind);
            due("cheapest(1, false), the one is step " + behind, y.cheapest(1, false), 1 << behind);
        }
    }

    /** To tell whether node 1 was passed: steps 0 and 1, at price 2, or step 2, or step 3. */
    private static LogPlacer oneOrTwo(int counted) {
        return oneOrTwoInOrder(counted, 2);
    }

    /** So that the step from node 1 on is this one; the others are, in order, two to it and one past it. */
    private static LogPlacer oneOrTwoInOrder(int counted, int number) {
        LogPlacer x = new LogPlacer();
        x.flow(3);
        int[][] others = {{0, 1, 0}, {0, 1, 0}, {0, 2, 1000000}};
        for (int e = 0; e < 4; e++) {
            if (e == number) {
                x.step(1, 2, counted);
            } else {
                int[] other = others[e < number ? e : e - 1];
                x.step(other[0], other[1], other[2]);
            }
        }
        x.fault(1, true);
        return x;
    }

    private static void cheapestHasTheLowestStep() {
        sentence("THE CHEAPEST: of like ones that which has the STEP of the lowest number in which two differ");
        due("cheapest(0, false) of 16 alike", sideBySide(16).cheapest(0, false), 32767);
        due("cheapest(0, false) of rows of twos", row(2, 2, 2, 2, 2, 2, 2).cheapest(0, false), 5461);
        LogPlacer x = new LogPlacer();
        x.flow(3);
        x.step(1, 2, 0);
        x.step(0, 2, 0);
        x.step(0, 1, 0);
        due("cheapest(0, false), step 0 though it is gone last", x.cheapest(0, false), 1);
        due("cheapest(0, false), step 2 from node 3", eitherOfTwo(3, 4, 2, 3).cheapest(0, false), 21);
        due("cheapest(0, false), step 2 from node 2", eitherOfTwo(2, 3, 3, 4).cheapest(0, false), 21);
    }

    /** The cheapest are steps 0, 4, and either 2 or 3, of which these are the nodes. */
    private static LogPlacer eitherOfTwo(int from2, int to2, int from3, int to3) {
        LogPlacer x = new LogPlacer();
        x.flow(5);
        x.step(2, 4, 0);
        x.step(0, 3, 1);
        x.step(from2, to2, 2);
        x.step(from3, to3, 2);
        x.step(0, 2, 0);
        x.step(2, 4, 617185);
        return x;
    }

    private static void besideHasEachLine() {
        sentence("BESIDE those there are: likewise, of all sets that have each STEP on which a LINE stands");
        LogPlacer x = small();
        due("cheapest(0, true) without lines", x.cheapest(0, true), 42);
        x = allLines(small());
        due("cheapest(0, true) with all lines", x.cheapest(0, true), 63);
        due("cheapest(1, true) with all lines", x.cheapest(1, true), 63);
        due("cheapest(0, false) with all lines", x.cheapest(0, false), 42);
        due("cheapest(1, true) of full, all lines", allLines(full()).cheapest(1, true), 65535);
        LogPlacer off = new LogPlacer();
        off.flow(3);
        off.step(0, 1, 1000000);
        lines(off, 0);
        due("cheapest(0, true), a line on no way", off.cheapest(0, true), 1);
        due("cheapest(0, false), a line on no way", off.cheapest(0, false), 0);
    }

    private static void uselessIfAsManyHeaps() {
        sentence("A LINE is USELESS if without it there are as many HEAPS");
        LogPlacer both = lines(sideBySide(2), 0, 1);
        due("useless(0), either may go", both.useless(0), 0);
        due("useless(1), either may go", both.useless(1), 1);
        both.line(0, false);
        due("useless(0), the last that parts", both.useless(0), NONE);
        LogPlacer never = new LogPlacer();
        never.flow(3);
        never.step(0, 1, 0);
        lines(never, 0);
        due("useless(0), no ways", never.useless(0), 0);
        LogPlacer some = lines(row(1, 2), 0, 1);
        due("useless(0), on all ways", some.useless(0), 0);
        due("useless(1), on one way", some.useless(1), NONE);
    }

    private static void whyIsTheFirstPair() {
        sentence("WHY: the first WAY that is PARTED from some other one, but would not be without it;"
                + " and the first such other one");
        LogPlacer x = lines(small(), 4);
        due("why(4, 0)", x.why(4, 0), 0);
        due("why(4, 1)", x.why(4, 1), 1);
        lines(x, 2);
        due("why(4, 0), way 0 is parted by step 2 as well", x.why(4, 0), 1);
        due("why(4, 1), way 2 is the first without it", x.why(4, 1), 2);
        due("why(2, 0)", x.why(2, 0), 0);
        due("why(2, 1), way 1 has line 4, way 2 has none", x.why(2, 1), 2);
        LogPlacer last = lines(sideBySide(16), 0, 1, 2, 3, 4, 5, 6, 7, 8, 9, 10, 11, 12, 13, 14);
        due("why(14, 0), the last pair", last.why(14, 0), 14);
        due("why(14, 1), the last pair", last.why(14, 1), 15);
        due("why(0, 0)", last.why(0, 0), 0);
        due("why(0, 1), the only one without a line", last.why(0, 1), 15);
    }

    private static void tornLogsAreBeginnings() {
        sentence("A LOG that was READ allows those WAYS whose LOG it is; a TORN one those whose LOG begins with it");
        LogPlacer x = allLines(small());
        due("whole 0", readBytes(x, false, 0), 0);
        due("torn 0", readBytes(x, true, 0), 3);
        due("torn 0 3", readBytes(x, true, 0, 3), 2);
        due("torn 0 3 4, the whole of it", readBytes(x, true, 0, 3, 4), 1);
        due("whole 0 3 4", readBytes(x, false, 0, 3, 4), 1);
        due("whole 0 3", readBytes(x, false, 0, 3), 0);
        due("torn 0 3 4 4, one longer", readBytes(x, true, 0, 3, 4, 4), 0);
        due("torn 0 4, step 3 is left out", readBytes(x, true, 0, 4), 0);
        due("torn 3, step 0 is left out", readBytes(x, true, 3), 0);
        due("torn 3 0, the wrong order", readBytes(x, true, 3, 0), 0);
    }

    private static void emptyTornLogAllowsAll() {
        sentence("(that begins with an empty one: all)");
        LogPlacer x = allLines(small());
        due("torn, all lines", x.read(0, true), 5);
        due("whole, all lines", x.read(0, false), 0);
        due("torn, no lines", small().read(0, true), 5);
        due("whole, no lines", small().read(0, false), 5);
        due("torn, no ways", new LogPlacer().read(0, true), 0);
        due("whole, no ways", new LogPlacer().read(0, false), 0);
        due("torn, 200 ways", allLines(withTwoHundred()).read(0, true), 200);
    }

    private static void sureAndMaybe() {
        sentence("SURE are STEPS that all WAYS have that it allows, MAYBE those that some of them have;"
                + " likewise FAULTS");
        LogPlacer x = small();
        x.read(0, true);
        due("found(0), no step is on all", x.found(0), 0);
        due("found(1), each step is on some", x.found(1), 63);
        due("found(2), no faults", x.found(2), 0);
        due("found(3), no faults", x.found(3), 0);
        x.fault(2, true);
        due("found(2), a fault on some", x.found(2), 0);
        due("found(3), a fault on some", x.found(3), 4);
        LogPlacer one = lines(small(), 0, 3, 4);
        one.fault(1, true);
        readBytes(one, false, 0, 3, 4);
        due("found(0), one way", one.found(0), 25);
        due("found(1), one way", one.found(1), 25);
        due("found(2), one way", one.found(2), 2);
        due("found(3), one way", one.found(3), 2);
    }

    private static void memoryIsThePlacersOwn() {
        sentence("All memory is the placer's own");
        LogPlacer one = lines(small(), 0);
        one.fault(1, true);
        feedBytes(one, 0);
        LogPlacer other = new LogPlacer();
        due("count(0) of another", other.count(0), 2);
        for (int what = 1; what <= 5; what++) {
            due("count(" + what + ") of another", other.count(what), 0);
        }
        due("read(1) of another", other.read(1, true), NONE);
        due("allowed(0) of another", other.allowed(0), NONE);
        lines(other, other.step(0, 1, 9), other.step(0, 1, 8));
        other.fault(0, true);
        feedBytes(other, 1);
        due("ways() of another", other.ways(), 2);
        due("ways() of the first", one.ways(), 5);
        due("look(0, 2) of the first", one.look(0, 2), 5);
        due("look(1, 3) of the first", one.look(1, 3), 0);
        due("cheapest(1, true) of the first", one.cheapest(1, true), 1);
        due("cheapest(1, true) of another", other.cheapest(1, true), 3);
        due("read(1) of the first", one.read(1, false), 3);
        due("read(1) of another", other.read(1, false), 1);
        due("allowed(2) of the first", one.allowed(2), 2);
        due("allowed(0) of another", other.allowed(0), 1);
        due("found(2) of the first", one.found(2), 2);
        due("found(2) of another", other.found(2), 1);
    }

    private static void fiveHundredAndTwelveCalls() {
        sentence("An object is used for at most 512 calls after it has been made");
        LogPlacer x = small();
        int madeBySmall = 7;
        for (int call = madeBySmall + 1; call <= 510; call++) {
            due("call " + call, x.line(0, call % 2 == 0), true);
        }
        due("call 511", x.cheapest(0, true), 41);
        due("call 512", x.heaps(), 2);
    }
}
