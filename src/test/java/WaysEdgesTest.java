/** The edges of promises 7 to 16, on ways and lines: a test for each sentence that names one. */
public final class WaysEdgesTest extends Checks {
    /** Numbers that are none of a way, a step, or a place in a row, in any flow. */
    private static final int[] FAR = {-1, -2, -32, 200, 256, 65536, MOST, LEAST, LEAST + 1};

    public static void main(String[] args) {
        waysAreCounted();
        waysThatEndNowhereAreNone();
        waysAreTooMany();
        wayHasSuchWays();
        wayHasSuchSteps();
        wayWithTooMany();
        logHasSuchWays();
        logHasSuchPlaces();
        logWithTooMany();
        heapsAreCounted();
        heapsWithTooMany();
        heapHasSuchWays();
        heapIsTheFirstWay();
        heapWithTooMany();
        apartIsOneOrZero();
        apartOfOthers();
        apartWithTooMany();
        cheapestOfNothing();
        cheapestOfFull();
        cheapestOfOthers();
        cheapestWithTooMany();
        priceOfNoneAndAll();
        priceOfNoSuchSteps();
        priceWithTooMany();
        uselessHasSuchPlaces();
        uselessOfNoneAndAll();
        uselessWithTooMany();
        whyItIsUseless();
        whyThereIsNone();
        whyOfOthers();
        whyWithTooMany();
        finish("WaysEdgesTest");
    }

    private static void waysAreCounted() {
        sentence("7: How many WAYS there are");
        LogPlacer x = new LogPlacer();
        due("ways(), no steps", x.ways(), 0);
        x.step(0, 1, 0);
        due("ways(), one step", x.ways(), 1);
        due("ways(), eleven steps in a row", longest().ways(), 1);
        due("ways(), sixteen steps side by side", sideBySide(16).ways(), 16);
        due("ways(), twelve nodes and sixteen steps", full().ways(), 32);
        due("ways(), the most", withTwoHundred().ways(), 200);
    }

    private static void waysThatEndNowhereAreNone() {
        sentence("7: rows of STEPS that begin or end elsewhere are no WAYS");
        due("ways(), 340 rows that end ahead of the last node", row(4, 4, 4, 4, 0).ways(), 0);
        due("ways(), 340 rows that begin behind the first node", row(0, 4, 4, 4, 4).ways(), 0);
        LogPlacer x = row(4, 4, 4, 3, 0);
        x.step(0, 5, 0);
        due("ways(), one beside 276 that end ahead", x.ways(), 1);
        due("way(0, 0)", x.way(0, 0), 15);
    }

    private static void waysAreTooMany() {
        sentence("7: -2: TOO MANY");
        due("ways() of 200", withTwoHundred().ways(), 200);
        due("ways() of 200, other steps", row(2, 2, 2, 5, 5).ways(), 200);
        due("ways() of 204", withTooMany().ways(), TOO_MANY);
        due("ways() of 216", row(1, 3, 3, 3, 2, 4).ways(), TOO_MANY);
        due("ways() of 324, the most of all", row(3, 3, 3, 3, 4).ways(), TOO_MANY);
    }

    private static void wayHasSuchWays() {
        sentence("8: STEP k of WAY i; NONE: there is none such (WAY)");
        LogPlacer x = small();
        due("way(0, 0)", x.way(0, 0), 0);
        due("way(4, 0), the last", x.way(4, 0), 1);
        due("way(5, 0)", x.way(5, 0), NONE);
        for (int i : FAR) {
            due("way(" + i + ", 0)", x.way(i, 0), NONE);
        }
        LogPlacer most = withTwoHundred();
        int[] last = {4, 9, 13, 15};
        for (int k = 0; k < 4; k++) {
            due("way(199, " + k + ") of 200", most.way(199, k), last[k]);
            due("way(200, " + k + ") of 200", most.way(200, k), NONE);
        }
        due("way(0, 0), no ways", new LogPlacer().way(0, 0), NONE);
    }

    private static void wayHasSuchSteps() {
        sentence("8: STEP k of WAY i; NONE: there is none such (STEP)");
        LogPlacer x = small();
        due("way(0, 1), the last", x.way(0, 1), 2);
        due("way(0, 2)", x.way(0, 2), NONE);
        due("way(1, 2), the last", x.way(1, 2), 4);
        due("way(1, 3)", x.way(1, 3), NONE);
        for (int k : FAR) {
            due("way(1, " + k + ")", x.way(1, k), NONE);
        }
        LogPlacer row = longest();
        for (int k = 0; k < 11; k++) {
            due("way(0, " + k + ") of eleven", row.way(0, k), k);
        }
        due("way(0, 11) of eleven", row.way(0, 11), NONE);
        due("way(0, -1) of eleven", row.way(0, -1), NONE);
    }

    private static void wayWithTooMany() {
        sentence("8: NONE: TOO MANY");
        LogPlacer x = withTooMany();
        int[] all = {-1, 0, 1, 199, 200, 203, 204};
        for (int i : all) {
            due("way(" + i + ", 0)", x.way(i, 0), NONE);
        }
    }

    private static void logHasSuchWays() {
        sentence("9: NONE: there is none such (WAY)");
        LogPlacer x = allLines(small());
        due("log(0, 0)", x.log(0, 0), 0);
        due("log(4, 0), the last", x.log(4, 0), 1);
        due("log(5, 0)", x.log(5, 0), NONE);
        for (int i : FAR) {
            due("log(" + i + ", 0)", x.log(i, 0), NONE);
        }
        LogPlacer most = allLines(withTwoHundred());
        due("log(199, 3) of 200", most.log(199, 3), 15);
        due("log(200, 3) of 200", most.log(200, 3), NONE);
        due("log(0, 0), no ways", new LogPlacer().log(0, 0), NONE);
    }

    private static void logHasSuchPlaces() {
        sentence("9: The k-th of the LOG (from 0 on); NONE: there is none such");
        LogPlacer x = small();
        due("log(1, 0), no lines", x.log(1, 0), NONE);
        lines(x, 4);
        due("log(1, 0), one line", x.log(1, 0), 4);
        due("log(1, 1), one line", x.log(1, 1), NONE);
        due("log(2, 0), a line beside the way", x.log(2, 0), NONE);
        lines(x, 0, 3);
        due("log(1, 2), all lines", x.log(1, 2), 4);
        due("log(1, 3), all lines", x.log(1, 3), NONE);
        for (int k : FAR) {
            due("log(1, " + k + ")", x.log(1, k), NONE);
        }
        LogPlacer row = allLines(longest());
        for (int k = 0; k < 11; k++) {
            due("log(0, " + k + ") of eleven", row.log(0, k), k);
        }
        due("log(0, 11) of eleven", row.log(0, 11), NONE);
        row.line(0, false);
        due("log(0, 0) of ten", row.log(0, 0), 1);
        due("log(0, 9) of ten", row.log(0, 9), 10);
        due("log(0, 10) of ten", row.log(0, 10), NONE);
    }

    private static void logWithTooMany() {
        sentence("9: NONE: TOO MANY");
        LogPlacer x = allLines(withTooMany());
        int[] all = {-1, 0, 1, 199, 200, 203, 204};
        for (int i : all) {
            due("log(" + i + ", 0)", x.log(i, 0), NONE);
        }
    }

    private static void heapsAreCounted() {
        sentence("10: How many HEAPS there are");
        due("heaps(), no ways", new LogPlacer().heaps(), 0);
        LogPlacer off = new LogPlacer();
        off.flow(3);
        off.step(0, 1, 0);
        lines(off, 0);
        due("heaps(), a line but no ways", off.heaps(), 0);
        due("heaps(), one way", allLines(longest()).heaps(), 1);
        due("heaps(), no lines", withTwoHundred().heaps(), 1);
        due("heaps(), one line", lines(withTwoHundred(), 15).heaps(), 2);
        due("heaps(), all lines", allLines(withTwoHundred()).heaps(), 200);
        due("heaps(), all lines of 32 ways", allLines(full()).heaps(), 32);
    }

    private static void heapsWithTooMany() {
        sentence("10: -2: TOO MANY");
        due("heaps(), no lines", withTooMany().heaps(), TOO_MANY);
        due("heaps(), all lines", allLines(withTooMany()).heaps(), TOO_MANY);
    }

    private static void heapHasSuchWays() {
        sentence("11: NONE: there is none such");
        LogPlacer x = small();
        due("heap(0)", x.heap(0), 0);
        due("heap(4), the last", x.heap(4), 0);
        due("heap(5)", x.heap(5), NONE);
        for (int i : FAR) {
            due("heap(" + i + ")", x.heap(i), NONE);
        }
        due("heap(199) of 200", allLines(withTwoHundred()).heap(199), 199);
        due("heap(200) of 200", allLines(withTwoHundred()).heap(200), NONE);
        due("heap(0), no ways", new LogPlacer().heap(0), NONE);
    }

    private static void heapIsTheFirstWay() {
        sentence("11: The first WAY of WAY i's HEAP");
        LogPlacer most = lines(withTwoHundred(), 15);
        due("heap(0)", most.heap(0), 0);
        due("heap(1), the first of the second", most.heap(1), 1);
        due("heap(198)", most.heap(198), 0);
        due("heap(199)", most.heap(199), 1);
        LogPlacer each = allLines(sideBySide(16));
        for (int i = 0; i < 16; i++) {
            due("heap(" + i + "), alone", each.heap(i), i);
        }
    }

    private static void heapWithTooMany() {
        sentence("11: NONE: TOO MANY");
        LogPlacer x = withTooMany();
        int[] all = {-1, 0, 199, 200, 203, 204};
        for (int i : all) {
            due("heap(" + i + ")", x.heap(i), NONE);
        }
    }

    private static void apartIsOneOrZero() {
        sentence("12: Whether LINES tell apart what 0 ALL WAYS, 1 FAULTS: 1, 0");
        LogPlacer x = withTwoHundred();
        due("apart(0), no lines", x.apart(0), 0);
        due("apart(1), no faults", x.apart(1), 1);
        lines(x, 0, 1, 2, 3, 5, 6, 7, 8, 10, 11, 12);
        due("apart(0), one line too few", x.apart(0), 0);
        lines(x, 14);
        due("apart(0), just enough", x.apart(0), 1);
        LogPlacer y = small();
        y.fault(1, true);
        due("apart(1), no lines", y.apart(1), 0);
        lines(y, 0);
        due("apart(1), just enough", y.apart(1), 1);
        due("apart(0), not enough", y.apart(0), 0);
        y.fault(2, true);
        due("apart(1), a fault more", y.apart(1), 0);
        y.fault(2, false);
        due("apart(1), a fault less", y.apart(1), 1);
    }

    private static void apartOfOthers() {
        sentence("12: NONE for others");
        int[] others = {-1, 2, 3, 256, 65536, LEAST, LEAST + 1, MOST};
        for (int what : others) {
            due("apart(" + what + ")", small().apart(what), NONE);
            due("apart(" + what + "), no ways", new LogPlacer().apart(what), NONE);
        }
    }

    private static void apartWithTooMany() {
        sentence("12: -2: TOO MANY");
        LogPlacer x = allLines(withTooMany());
        due("apart(0)", x.apart(0), TOO_MANY);
        due("apart(1)", x.apart(1), TOO_MANY);
        LogPlacer y = beforeTooMany();
        due("apart(1), not yet", y.apart(1), 1);
        y.step(0, 3, 0);
        due("apart(1), with a step more", y.apart(1), TOO_MANY);
    }

    private static void cheapestOfNothing() {
        sentence("13: THE CHEAPEST where nothing is to be told apart: the empty set");
        LogPlacer x = new LogPlacer();
        for (int what = 0; what < 2; what++) {
            due("cheapest(" + what + ", false), no ways", x.cheapest(what, false), 0);
            due("cheapest(" + what + ", true), no ways", x.cheapest(what, true), 0);
        }
        due("cheapest(0, false), one way", longest().cheapest(0, false), 0);
        due("cheapest(1, false), no faults", withTwoHundred().cheapest(1, false), 0);
        due("cheapest(1, true), no faults", lines(withTwoHundred(), 7).cheapest(1, true), 128);
    }

    private static void cheapestOfFull() {
        sentence("13: THE CHEAPEST (BESIDE or not) as bits, of sixteen STEPS");
        LogPlacer x = sideBySide(16);
        due("cheapest(0, false), all alike", x.cheapest(0, false), 32767);
        for (int e = 0; e < 16; e++) {
            x.counted(e, 1000000);
        }
        due("cheapest(0, false), all dearest", x.cheapest(0, false), 32767);
        x.counted(15, 999999);
        due("cheapest(0, false), the last a little cheaper", x.cheapest(0, false), 49151);
        lines(x, 14);
        due("cheapest(0, true), beside line 14", x.cheapest(0, true), 57343);
        due("cheapest(0, true), beside all", allLines(x).cheapest(0, true), 65535);
        due("cheapest(0, false), beside none", x.cheapest(0, false), 49151);
        due("cheapest(0, false) of 200 ways", withTwoHundred().cheapest(0, false), 24047);
        due("cheapest(0, false) of 32 ways", full().cheapest(0, false), 341);
    }

    private static void cheapestOfOthers() {
        sentence("13: NONE for others");
        int[] others = {-1, 2, 3, 256, 65536, LEAST, LEAST + 1, MOST};
        for (int what : others) {
            due("cheapest(" + what + ", false)", small().cheapest(what, false), NONE);
            due("cheapest(" + what + ", true)", small().cheapest(what, true), NONE);
        }
    }

    private static void cheapestWithTooMany() {
        sentence("13: -2: TOO MANY");
        LogPlacer x = allLines(withTooMany());
        for (int what = 0; what < 2; what++) {
            due("cheapest(" + what + ", false)", x.cheapest(what, false), TOO_MANY);
            due("cheapest(" + what + ", true)", x.cheapest(what, true), TOO_MANY);
        }
    }

    private static void priceOfNoneAndAll() {
        sentence("14: THE PRICE of a set of STEPS (bits)");
        due("price(0), no steps", new LogPlacer().price(0), 0);
        due("price(0)", small().price(0), 0);
        due("price(1), the first", small().price(1), 6);
        due("price(32), the last", small().price(32), 1);
        due("price(63), all", small().price(63), 23);
        LogPlacer x = sideBySide(16);
        due("price(65535), the least", x.price(65535), 16);
        for (int e = 0; e < 16; e++) {
            x.counted(e, 1000000);
            due("price of step " + e, x.price(1 << e), 1000001);
        }
        due("price(65535), the most", x.price(65535), 16000016);
    }

    private static void priceOfNoSuchSteps() {
        sentence("14: NONE: no such STEPS");
        due("price(1), no steps", new LogPlacer().price(1), NONE);
        LogPlacer x = small();
        for (int e = 6; e < 32; e++) {
            due("price of step " + e, x.price(1 << e), NONE);
            due("price of all and step " + e, x.price(63 | 1 << e), NONE);
        }
        due("price(-1)", x.price(-1), NONE);
        LogPlacer all = sideBySide(16);
        for (int e = 16; e < 32; e++) {
            due("price of step " + e + " of 16", all.price(1 << e), NONE);
            due("price of all and step " + e + " of 16", all.price(65535 | 1 << e), NONE);
        }
        due("price(-1) of 16", all.price(-1), NONE);
        due("price(-65536) of 16", all.price(-65536), NONE);
    }

    private static void priceWithTooMany() {
        sentence("14: THE PRICE needs no WAYS");
        due("price(65535), too many", withTooMany().price(65535), 16);
        due("price(65536), too many", withTooMany().price(65536), NONE);
        due("price(1), no ways", row(1, 0).price(1), 1);
    }

    private static void uselessHasSuchPlaces() {
        sentence("15: The i-th USELESS LINE, by STEPS; NONE: there is none such");
        LogPlacer x = lines(small(), 0, 1, 2);
        due("useless(0), the first", x.useless(0), 0);
        due("useless(1), the last", x.useless(1), 1);
        due("useless(2)", x.useless(2), NONE);
        for (int i : FAR) {
            due("useless(" + i + ")", x.useless(i), NONE);
        }
        LogPlacer late = new LogPlacer();
        late.flow(3);
        late.step(1, 2, 0);
        late.step(0, 1, 0);
        lines(late, 0, 1);
        due("useless(0), by steps and not as they are gone", late.useless(0), 0);
        due("useless(1), by steps and not as they are gone", late.useless(1), 1);
    }

    private static void uselessOfNoneAndAll() {
        sentence("15: none USELESS, all USELESS");
        due("useless(0), no steps", new LogPlacer().useless(0), NONE);
        due("useless(0), no lines", small().useless(0), NONE);
        LogPlacer x = allLines(full());
        for (int i = 0; i < 16; i++) {
            due("useless(" + i + "), all are", x.useless(i), i);
        }
        due("useless(16), all are", x.useless(16), NONE);
        LogPlacer y = lines(full(), 0, 2, 4, 6, 8);
        due("useless(0), none is", y.useless(0), NONE);
        lines(y, 15);
        due("useless(0), the last is", y.useless(0), 15);
        due("useless(1), the last is", y.useless(1), NONE);
        LogPlacer most = allLines(withTwoHundred());
        due("useless(15) of 200 ways", most.useless(15), 15);
        most.line(14, false);
        due("useless(13), the other one is needed", most.useless(13), 13);
        due("useless(14), the other one is needed", most.useless(14), NONE);
    }

    private static void uselessWithTooMany() {
        sentence("15: NONE: TOO MANY");
        LogPlacer x = allLines(withTooMany());
        due("useless(0)", x.useless(0), NONE);
        due("useless(15)", x.useless(15), NONE);
    }

    private static void whyItIsUseless() {
        sentence("16: NONE: it is USELESS");
        LogPlacer x = lines(sideBySide(2), 0, 1);
        for (int e = 0; e < 2; e++) {
            due("why(" + e + ", 0)", x.why(e, 0), NONE);
            due("why(" + e + ", 1)", x.why(e, 1), NONE);
        }
        x.line(1, false);
        due("why(0, 0), the last that parts", x.why(0, 0), 0);
        due("why(0, 1), the last that parts", x.why(0, 1), 1);
        LogPlacer alone = allLines(longest());
        due("why(0, 0), one way", alone.why(0, 0), NONE);
        due("why(10, 1), one way", alone.why(10, 1), NONE);
        LogPlacer off = new LogPlacer();
        off.flow(3);
        off.step(0, 1, 0);
        lines(off, 0);
        due("why(0, 0), no ways", off.why(0, 0), NONE);
    }

    private static void whyThereIsNone() {
        sentence("16: NONE: there is none");
        LogPlacer x = lines(small(), 0, 5);
        due("why(0, 0), the first step", x.why(0, 0), 0);
        due("why(0, 1), the first step", x.why(0, 1), 3);
        due("why(5, 0), the last step", x.why(5, 0), 0);
        due("why(5, 1), the last step", x.why(5, 1), 2);
        for (int e = 1; e < 5; e++) {
            due("why(" + e + ", 0), no line", x.why(e, 0), NONE);
            due("why(" + e + ", 1), no line", x.why(e, 1), NONE);
        }
        int[] none = {-1, 6, 15, 16, 32, 37, -32, LEAST, MOST};
        for (int e : none) {
            due("why(" + e + ", 0), no step", x.why(e, 0), NONE);
            due("why(" + e + ", 1), no step", x.why(e, 1), NONE);
        }
        LogPlacer most = lines(withTwoHundred(), 15);
        due("why(15, 0) of 200 ways", most.why(15, 0), 0);
        due("why(15, 1) of 200 ways", most.why(15, 1), 1);
        due("why(16, 0) of 200 ways", most.why(16, 0), NONE);
        due("why(4, 0), first of the last 40", lines(withTwoHundred(), 4).why(4, 0), 0);
        due("why(4, 1), first of the last 40", lines(withTwoHundred(), 4).why(4, 1), 160);
    }

    private static void whyOfOthers() {
        sentence("16: what 0 the first WAY, 1 the other one; NONE: others");
        LogPlacer x = lines(small(), 0);
        due("why(0, 0)", x.why(0, 0), 0);
        due("why(0, 1)", x.why(0, 1), 3);
        int[] others = {-1, 2, 3, 256, 65536, LEAST, LEAST + 1, MOST};
        for (int what : others) {
            due("why(0, " + what + ")", x.why(0, what), NONE);
        }
    }

    private static void whyWithTooMany() {
        sentence("16: NONE: TOO MANY");
        LogPlacer x = lines(beforeTooMany(), 0);
        due("why(0, 1), not yet", x.why(0, 1), 96);
        x.step(0, 3, 0);
        due("why(0, 0)", x.why(0, 0), NONE);
        due("why(0, 1)", x.why(0, 1), NONE);
    }
}
