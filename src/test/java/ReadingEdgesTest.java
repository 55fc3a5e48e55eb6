/** The edges of promises 17 to 22, on logs and looks: a test for each sentence that names one. */
public final class ReadingEdgesTest extends Checks {
    /** Numbers that are none of a way, a step, or a thing to ask for, in any flow. */
    private static final int[] FAR = {-1, -2, -32, 200, 256, 65536, MOST, LEAST, LEAST + 1};

    public static void main(String[] args) {
        feedAnswersHowMany();
        feedIsRefusedBeyondForty();
        feedPutsTheHighestFirst();
        feedComesBehind();
        feedHasBytesWithoutSign();
        readTakesZeroToSixteen();
        readTakesWhatTheTapeHas();
        readLeavesTheTapeEmpty();
        readLeavesTheTapeWhenRefused();
        readLeavesTheLogWhenRefused();
        readCountsWays();
        readBytesThatAreNoSteps();
        readWithTooMany();
        allowedHasSuchPlaces();
        allowedWhenNoneWasRead();
        allowedByTheLastLog();
        allowedByLinesAsTheyAreNow();
        allowedWithTooMany();
        foundOfNoneAllowed();
        foundWhenNoneWasRead();
        foundOfOthers();
        foundOfFull();
        foundByThingsAsTheyAreNow();
        foundWithTooMany();
        lookHasSuchSteps();
        lookOfOthers();
        lookAtTheMost();
        countOfEmptyAndFull();
        countOfOthers();
        finish("ReadingEdgesTest");
    }

    private static void feedAnswersHowMany() {
        sentence("17: Twenty bytes come behind the tape: how many it has");
        LogPlacer x = new LogPlacer();
        due("count(5), empty", x.count(5), 0);
        due("feed, the first", x.feed(0, 0, 0, 0, 0), 20);
        due("count(5), twenty", x.count(5), 20);
        due("feed, the second", x.feed(MOST, LEAST, -1, 1, 0), 40);
        due("count(5), forty", x.count(5), 40);
    }

    private static void feedIsRefusedBeyondForty() {
        sentence("17: NONE if that would be more than 40");
        LogPlacer x = lines(sideBySide(2), 1);
        feedBytes(x, 1);
        feedBytes(x, 0);
        due("feed, the third", feedBytes(x, 0), NONE);
        due("feed, the third again", feedBytes(x, 0), NONE);
        due("count(5), it stays full", x.count(5), 40);
        due("read(1, false), its bytes stay", x.read(1, false), 1);
        due("allowed(0), its bytes stay", x.allowed(0), 1);
        due("count(5), read", x.count(5), 0);
        due("feed, anew", x.feed(0, 0, 0, 0, 0), 20);
        due("feed, anew", x.feed(0, 0, 0, 0, 0), 40);
        due("feed, anew", x.feed(0, 0, 0, 0, 0), NONE);
    }

    private static void feedPutsTheHighestFirst() {
        sentence("17: the highest of each int first");
        LogPlacer x = allLines(longest());
        x.feed(0x00010203, 0x04050607, 0x08090A00, 0, 0);
        due("read(11, false)", x.read(11, false), 1);
        x.feed(0x00010203, 0x04050607, 0x00080900, 0x0A000000, 0);
        due("read(11, false), ten stands late", x.read(11, false), 0);
        x.feed(0x03020100, 0x07060504, 0x000A0908, 0, 0);
        due("read(11, false), the lowest first", x.read(11, false), 0);
        x.feed(0x04050607, 0x00010203, 0x08090A00, 0, 0);
        due("read(11, false), the second int first", x.read(11, false), 0);
        x.feed(0x00010203, 0x04050607, 0x08090A0B, 0x0C0D0E0F, 0);
        due("read(16, false), five bytes more", x.read(16, false), 0);
    }

    private static void feedComesBehind() {
        sentence("17: Twenty bytes come behind the tape");
        LogPlacer x = lines(sideBySide(3), 1, 2);
        feedBytes(x, 1);
        feedBytes(x, 2);
        due("read(1, false)", x.read(1, false), 1);
        due("allowed(0), what was fed first", x.allowed(0), 1);
        feedBytes(x, 2);
        due("read(1, false), behind an empty tape", x.read(1, false), 1);
        due("allowed(0), what was fed anew", x.allowed(0), 2);
    }

    private static void feedHasBytesWithoutSign() {
        sentence("17: bytes of negative ints");
        LogPlacer x = allLines(longest());
        x.feed(0x00FFFFFF, -1, -1, -1, -1);
        due("read(1, true), 0 ahead of 255", x.read(1, true), 1);
        x.feed(0x80010203, 0, 0, 0, 0);
        due("read(1, true), 128", x.read(1, true), 0);
        x.feed(0x000102FF, 0x04000000, 0, 0, 0);
        due("read(3, true), ahead of 255", x.read(3, true), 1);
        x.feed(0x000102FF, 0x04000000, 0, 0, 0);
        due("read(4, true), with 255", x.read(4, true), 0);
    }

    private static void readTakesZeroToSixteen() {
        sentence("18: (0 to 16); NONE: n not 0 to 16");
        LogPlacer x = allLines(small());
        for (int n = 0; n <= 16; n++) {
            feedBytes(x, 0, 3, 4);
            due("read(" + n + ", false)", x.read(n, false), n == 3 ? 1 : 0);
        }
        feedBytes(x, 0, 3, 4);
        feedBytes(x, 0, 3, 4);
        int[] none = {-1, -16, 17, 18, 19, 20, 21, 40, 41, 256, LEAST, MOST};
        for (int n : none) {
            due("read(" + n + ", true)", x.read(n, true), NONE);
        }
        due("read(16, false), the last", x.read(16, false), 0);
    }

    private static void readTakesWhatTheTapeHas() {
        sentence("18: NONE: it has not so many");
        LogPlacer x = small();
        for (int n = 1; n <= 17; n++) {
            due("read(" + n + ", true), empty tape", x.read(n, true), NONE);
        }
        due("allowed(0), none was read", x.allowed(0), NONE);
        due("read(0, true), empty tape", x.read(0, true), 5);
        feedBytes(x, 9);
        due("read(16, true), twenty", x.read(16, true), 0);
        due("read(1, true), empty again", x.read(1, true), NONE);
    }

    private static void readLeavesTheTapeEmpty() {
        sentence("18: (empty then)");
        LogPlacer x = allLines(small());
        int[] lengths = {0, 1, 15, 16};
        for (int n : lengths) {
            feedBytes(x, 0);
            x.read(n, true);
            due("count(5) behind read(" + n + ") of 20", x.count(5), 0);
            feedBytes(x, 0);
            feedBytes(x, 0);
            x.read(n, false);
            due("count(5) behind read(" + n + ") of 40", x.count(5), 0);
        }
        due("read(1, true), nothing is left", x.read(1, true), NONE);
    }

    private static void readLeavesTheTapeWhenRefused() {
        sentence("18: (the tape stays by both)");
        LogPlacer x = lines(small(), 0, 3, 4);
        due("read(1, true), not so many", x.read(1, true), NONE);
        due("count(5), nothing", x.count(5), 0);
        feedBytes(x, 0, 3, 4);
        due("read(17, true)", x.read(17, true), NONE);
        due("read(-1, true)", x.read(-1, true), NONE);
        due("count(5), twenty", x.count(5), 20);
        due("feed behind them", feedBytes(x, 9), 40);
        due("read(17, true)", x.read(17, true), NONE);
        due("count(5), forty", x.count(5), 40);
        due("read(3, false), its bytes stay", x.read(3, false), 1);
        due("allowed(0), its bytes stay", x.allowed(0), 1);
    }

    private static void readLeavesTheLogWhenRefused() {
        sentence("18: a read that is refused leaves the LOG that was READ");
        LogPlacer x = lines(small(), 0, 4);
        readBytes(x, false, 0, 4);
        due("read(1, true), not so many", x.read(1, true), NONE);
        due("allowed(0)", x.allowed(0), 1);
        due("allowed(1)", x.allowed(1), NONE);
        feedBytes(x, 4);
        due("read(17, true)", x.read(17, true), NONE);
        due("read(-1, true)", x.read(-1, true), NONE);
        due("allowed(0)", x.allowed(0), 1);
        due("allowed(1), it is not torn", x.allowed(1), NONE);
        due("found(0)", x.found(0), 25);
    }

    private static void readCountsWays() {
        sentence("18: how many WAYS it allows");
        due("read(0, true), no ways", new LogPlacer().read(0, true), 0);
        due("read(0, false), no lines", withTwoHundred().read(0, false), 200);
        due("read(0, true), all lines", allLines(withTwoHundred()).read(0, true), 200);
        due("read(0, false), all lines", allLines(withTwoHundred()).read(0, false), 0);
        LogPlacer x = allLines(longest());
        int[] log = {0, 1, 2, 3, 4, 5, 6, 7, 8, 9, 10};
        feedBytes(x, log);
        due("read(11, false), the longest", x.read(11, false), 1);
        feedBytes(x, log);
        due("read(11, true), the longest", x.read(11, true), 1);
        feedBytes(x, log);
        due("read(10, false), one too few", x.read(10, false), 0);
        feedBytes(x, log);
        due("read(10, true), one too few", x.read(10, true), 1);
        feedBytes(x, log);
        due("read(12, false), one too many", x.read(12, false), 0);
        feedBytes(x, log);
        due("read(12, true), one too many", x.read(12, true), 0);
    }

    private static void readBytesThatAreNoSteps() {
        sentence("18: bytes that are no STEPS, or STEPS without a LINE, are on no LOG");
        LogPlacer x = allLines(small());
        int[] none = {2, 3, 4, 5, 6, 7, 15, 16, 31, 32, 33, 64, 127, 128, 160, 255};
        for (int e : none) {
            due("read of " + e + " first, torn", readBytes(x, true, e), 0);
            due("read of " + e + " first", readBytes(x, false, e), 0);
        }
        due("read of 1 first, torn", readBytes(x, true, 1), 2);
        due("read of 1 5, torn", readBytes(x, true, 1, 5), 1);
        due("read of 1 6, torn", readBytes(x, true, 1, 6), 0);
        due("read of 1 37, torn", readBytes(x, true, 1, 37), 0);
        due("read of 1 255, torn", readBytes(x, true, 1, 255), 0);
        x.line(5, false);
        due("read of 1 5 without that line, torn", readBytes(x, true, 1, 5), 0);
        due("read of 1 without that line", readBytes(x, false, 1), 1);
        LogPlacer all = allLines(sideBySide(16));
        due("read of 15, of 16 steps", readBytes(all, false, 15), 1);
        due("read of 16, of 16 steps", readBytes(all, false, 16), 0);
    }

    private static void readWithTooMany() {
        sentence("18: -2: TOO MANY (it is READ); NONE (the tape stays by both)");
        LogPlacer x = withTooMany();
        due("read(1, true), empty tape", x.read(1, true), NONE);
        due("read(0, true), empty tape", x.read(0, true), TOO_MANY);
        feedBytes(x, 0);
        due("read(17, true)", x.read(17, true), NONE);
        due("read(-1, false)", x.read(-1, false), NONE);
        due("count(5), refused", x.count(5), 20);
        due("read(16, true)", x.read(16, true), TOO_MANY);
        due("count(5), it is read", x.count(5), 0);
        feedBytes(x, 0);
        feedBytes(x, 0);
        due("read(0, false)", x.read(0, false), TOO_MANY);
        due("count(5), it is read", x.count(5), 0);
    }

    private static void allowedHasSuchPlaces() {
        sentence("19: The i-th WAY; NONE: there is none such");
        LogPlacer x = lines(small(), 3);
        readBytes(x, false, 3);
        due("allowed(0), the first", x.allowed(0), 1);
        due("allowed(1), the last", x.allowed(1), 2);
        due("allowed(2)", x.allowed(2), NONE);
        for (int i : FAR) {
            due("allowed(" + i + ")", x.allowed(i), NONE);
        }
        LogPlacer most = withTwoHundred();
        most.read(0, true);
        due("allowed(0) of 200", most.allowed(0), 0);
        due("allowed(199) of 200", most.allowed(199), 199);
        due("allowed(200) of 200", most.allowed(200), NONE);
        due("allowed(-1) of 200", most.allowed(-1), NONE);
        LogPlacer none = new LogPlacer();
        none.read(0, true);
        due("allowed(0), no ways", none.allowed(0), NONE);
    }

    private static void allowedWhenNoneWasRead() {
        sentence("19: NONE: none was READ");
        LogPlacer x = small();
        due("allowed(0)", x.allowed(0), NONE);
        feedBytes(x, 0);
        due("allowed(0), fed but not read", x.allowed(0), NONE);
        x.read(17, true);
        due("allowed(0), refused", x.allowed(0), NONE);
        x.read(0, true);
        due("allowed(0), read", x.allowed(0), 0);
    }

    private static void allowedByTheLastLog() {
        sentence("19: that the LOG READ last allows");
        LogPlacer x = allLines(small());
        readBytes(x, true, 0);
        due("allowed(0), torn 0", x.allowed(0), 0);
        readBytes(x, true, 1);
        due("allowed(0), torn 1", x.allowed(0), 3);
        due("allowed(1), torn 1", x.allowed(1), 4);
        readBytes(x, false, 1, 5);
        due("allowed(0), whole 1 5", x.allowed(0), 4);
        due("allowed(1), whole 1 5", x.allowed(1), NONE);
        x.read(0, false);
        due("allowed(0), whole and empty", x.allowed(0), NONE);
        x.read(0, true);
        due("allowed(4), torn and empty", x.allowed(4), 4);
    }

    private static void allowedByLinesAsTheyAreNow() {
        sentence("19: by LINES as they are now");
        LogPlacer x = small();
        x.read(0, false);
        due("allowed(4), no lines", x.allowed(4), 4);
        lines(x, 0);
        due("allowed(0), a line on 0", x.allowed(0), 3);
        due("allowed(1), a line on 0", x.allowed(1), 4);
        due("allowed(2), a line on 0", x.allowed(2), NONE);
        lines(x, 1);
        due("allowed(0), a line on each first step", x.allowed(0), NONE);
        x.line(0, false);
        due("allowed(0), a line on 1", x.allowed(0), 0);
        LogPlacer later = new LogPlacer();
        readBytes(later, false, 15);
        for (int e = 0; e < 16; e++) {
            due("allowed(0), " + e + " steps", later.allowed(0), NONE);
            later.step(0, 1, 0);
        }
        lines(later, 15);
        due("allowed(0), a line on 15", later.allowed(0), 15);
    }

    private static void allowedWithTooMany() {
        sentence("19: NONE: TOO MANY");
        LogPlacer x = beforeTooMany();
        x.read(0, true);
        due("allowed(191), not yet", x.allowed(191), 191);
        x.step(0, 3, 0);
        due("allowed(0)", x.allowed(0), NONE);
        due("allowed(191)", x.allowed(191), NONE);
        x.read(0, true);
        due("allowed(0), read again", x.allowed(0), NONE);
    }

    private static void foundOfNoneAllowed() {
        sentence("20: NONE: it allows none");
        LogPlacer x = allLines(small());
        x.fault(0, true);
        x.read(0, false);
        for (int what = 0; what < 4; what++) {
            due("found(" + what + "), no way has it", x.found(what), NONE);
        }
        LogPlacer none = new LogPlacer();
        none.read(0, true);
        for (int what = 0; what < 4; what++) {
            due("found(" + what + "), no ways", none.found(what), NONE);
        }
        x.read(0, true);
        due("found(0), all ways: none is sure, but not NONE", x.found(0), 0);
    }

    private static void foundWhenNoneWasRead() {
        sentence("20: NONE: none was READ");
        LogPlacer x = small();
        feedBytes(x, 0);
        x.read(17, true);
        for (int what = 0; what < 4; what++) {
            due("found(" + what + ")", x.found(what), NONE);
        }
        x.read(0, true);
        due("found(1), read", x.found(1), 63);
    }

    private static void foundOfOthers() {
        sentence("20: what 0 SURE STEPS, 1 MAYBE, 2 SURE FAULTS, 3 MAYBE; NONE: others");
        LogPlacer x = lines(small(), 0);
        x.fault(1, true);
        x.fault(2, true);
        readBytes(x, false, 0);
        int[] answers = {1, 61, 2, 6};
        for (int what = 0; what < 4; what++) {
            due("found(" + what + ")", x.found(what), answers[what]);
        }
        due("found(4)", x.found(4), NONE);
        due("found(5)", x.found(5), NONE);
        for (int what : FAR) {
            due("found(" + what + ")", x.found(what), NONE);
        }
    }

    private static void foundOfFull() {
        sentence("20: as bits, of sixteen STEPS and twelve NODES");
        LogPlacer x = full();
        x.read(0, true);
        due("found(0)", x.found(0), 64512);
        due("found(1)", x.found(1), 65535);
        due("found(2), no faults", x.found(2), 0);
        due("found(3), no faults", x.found(3), 0);
        for (int v = 0; v < 12; v++) {
            x.fault(v, true);
        }
        due("found(2), all faults", x.found(2), 4095);
        due("found(3), all faults", x.found(3), 4095);
        LogPlacer most = withTwoHundred();
        most.read(0, true);
        due("found(0) of 200 ways", most.found(0), 0);
        due("found(1) of 200 ways", most.found(1), 65535);
    }

    private static void foundByThingsAsTheyAreNow() {
        sentence("20: By it, with LINES, FAULTS and STEPS as they are now");
        LogPlacer x = small();
        x.read(0, false);
        due("found(0), no lines", x.found(0), 0);
        lines(x, 0);
        due("found(0), a line on 0", x.found(0), 2);
        due("found(1), a line on 0", x.found(1), 50);
        x.fault(2, true);
        due("found(2), a fault", x.found(2), 4);
        x.fault(2, false);
        due("found(2), no fault any more", x.found(2), 0);
        x.step(0, 3, 0);
        due("found(0), a step more", x.found(0), 0);
        due("found(1), a step more", x.found(1), 114);
    }

    private static void foundWithTooMany() {
        sentence("20: NONE: TOO MANY");
        LogPlacer x = beforeTooMany();
        x.read(0, true);
        due("found(1), not yet", x.found(1), 32767);
        x.step(0, 3, 0);
        for (int what = 0; what < 4; what++) {
            due("found(" + what + ")", x.found(what), NONE);
        }
    }

    private static void lookHasSuchSteps() {
        sentence("21: Of STEP e. NONE for others (STEPS)");
        due("look(0, 0), no steps", new LogPlacer().look(0, 0), NONE);
        LogPlacer x = allLines(small());
        due("look(0, 1), the first", x.look(0, 1), 1);
        due("look(5, 1), the last", x.look(5, 1), 3);
        int[] none = {-1, 6, 7, 15, 16, 32, 37, -32, LEAST, MOST};
        for (int e : none) {
            for (int what = 0; what < 4; what++) {
                due("look(" + e + ", " + what + ")", x.look(e, what), NONE);
            }
        }
        due("look(15, 0) of 16", full().look(15, 0), 10);
        due("look(16, 0) of 16", full().look(16, 0), NONE);
    }

    private static void lookOfOthers() {
        sentence("21: what 0 from, 1 to, 2 COUNTED, 3 whether a LINE stands on it. NONE for others");
        LogPlacer x = lines(small(), 3);
        int[] answers = {1, 2, 1, 1};
        for (int what = 0; what < 4; what++) {
            due("look(3, " + what + ")", x.look(3, what), answers[what]);
        }
        due("look(2, 3), no line", x.look(2, 3), 0);
        due("look(3, 4)", x.look(3, 4), NONE);
        for (int what : FAR) {
            due("look(3, " + what + ")", x.look(3, what), NONE);
        }
    }

    private static void lookAtTheMost() {
        sentence("21: the least and the most that a STEP has");
        LogPlacer x = new LogPlacer();
        x.flow(12);
        x.step(0, 11, 1000000);
        x.step(10, 11, 0);
        due("look(0, 0)", x.look(0, 0), 0);
        due("look(0, 1)", x.look(0, 1), 11);
        due("look(0, 2)", x.look(0, 2), 1000000);
        due("look(1, 0)", x.look(1, 0), 10);
        due("look(1, 2)", x.look(1, 2), 0);
        LogPlacer many = lines(withTooMany(), 15);
        due("look(15, 1), too many ways", many.look(15, 1), 3);
        due("look(15, 3), too many ways", many.look(15, 3), 1);
    }

    private static void countOfEmptyAndFull() {
        sentence("22: 0 NODES, 1 STEPS, 2 LINES, 3 FAULTS, 4 THE PRICE of all LINES, 5 bytes of the tape");
        LogPlacer x = new LogPlacer();
        long[] empty = {2, 0, 0, 0, 0, 0};
        for (int what = 0; what < 6; what++) {
            due("count(" + what + "), empty", x.count(what), empty[what]);
        }
        x = full();
        for (int e = 0; e < 16; e++) {
            x.counted(e, 1000000);
        }
        due("count(4), no lines", x.count(4), 0);
        allLines(x);
        for (int v = 0; v < 12; v++) {
            x.fault(v, true);
        }
        feedBytes(x, 0);
        feedBytes(x, 0);
        long[] most = {12, 16, 16, 12, 16000016, 40};
        for (int what = 0; what < 6; what++) {
            due("count(" + what + "), full", x.count(what), most[what]);
        }
        due("count(4), too many ways", allLines(withTooMany()).count(4), 16);
    }

    private static void countOfOthers() {
        sentence("22: NONE for others");
        LogPlacer x = small();
        due("count(6)", x.count(6), NONE);
        due("count(7)", x.count(7), NONE);
        for (int what : FAR) {
            due("count(" + what + ")", x.count(what), NONE);
        }
    }
}
