/** What the tests share: flows to ask about, and the count of answers that are not as due. */
abstract class Checks {
    static final int NONE = -1;
    static final int TOO_MANY = -2;
    static final int LEAST = Integer.MIN_VALUE;
    static final int MOST = Integer.MAX_VALUE;

    private static String sentence = "";
    private static int wrong = 0;

    /** The sentence of the document that the answers behind this call are about. */
    static void sentence(String told) {
        sentence = told;
    }

    static void due(String call, long got, long want) {
        if (got != want) {
            wrong++;
            System.out.println("[" + sentence + "] " + call + " answered " + got + ", due is " + want);
        }
    }

    static void due(String call, boolean got, boolean want) {
        due(call, got ? 1 : 0, want ? 1 : 0);
    }

    static void due(String call, String got, String want) {
        if (!got.equals(want)) {
            wrong++;
            System.out.println("[" + sentence + "] " + call + ":\n  got " + got + "\n  due " + want);
        }
    }

    /** The last line of each test's main method. */
    static void finish(String test) {
        System.out.println(wrong == 0 ? test + ": all as due" : test + ": " + wrong + " wrong");
        if (wrong != 0) {
            System.exit(1);
        }
    }

    /**
     * Four nodes, five ways: 0 {0 2}, 1 {0 3 4}, 2 {0 3 5}, 3 {1 4}, 4 {1 5}.
     * Steps: 0 is 0-1, 1 is 0-2, 2 is 1-3, 3 is 1-2, 4 and 5 are 2-3; counted 5, 3, 4, 1, 4, 0.
     */
    static LogPlacer small() {
        LogPlacer x = new LogPlacer();
        x.flow(4);
        x.step(0, 1, 5);
        x.step(0, 2, 3);
        x.step(1, 3, 4);
        x.step(1, 2, 1);
        x.step(2, 3, 4);
        x.step(2, 3, 0);
        return x;
    }

    /** A row of nodes, each with as many steps to the next one as told. */
    static LogPlacer row(int... steps) {
        LogPlacer x = new LogPlacer();
        x.flow(steps.length + 1);
        for (int v = 0; v < steps.length; v++) {
            for (int k = 0; k < steps[v]; k++) {
                x.step(v, v + 1, 0);
            }
        }
        return x;
    }

    /** As many steps as told, all from node 0 to node 1, each of them a way. */
    static LogPlacer sideBySide(int steps) {
        return row(steps);
    }

    /** Eleven steps one behind the other: the one way of the most nodes. */
    static LogPlacer longest() {
        return row(1, 1, 1, 1, 1, 1, 1, 1, 1, 1, 1);
    }

    /** Twelve nodes and sixteen steps: 32 ways of eleven steps; steps 10 to 15 are on all of them. */
    static LogPlacer full() {
        return row(2, 2, 2, 2, 2, 1, 1, 1, 1, 1, 1);
    }

    /** The most ways that are not too many; the last is {4 9 13 15}. */
    static LogPlacer withTwoHundred() {
        return row(5, 5, 4, 2);
    }

    /** 192 ways with 15 steps; a step 0-3 more makes them 204. */
    static LogPlacer beforeTooMany() {
        LogPlacer x = new LogPlacer();
        x.flow(7);
        int[] from = {0, 1, 2, 3, 4, 5, 1, 3, 4, 0, 2, 1, 1, 5, 4};
        for (int v : from) {
            x.step(v, v + 1, 0);
        }
        return x;
    }

    /** 204 ways: no flow of at most 16 steps has 201, 202 or 203 (a search through all shows it). */
    static LogPlacer withTooMany() {
        LogPlacer x = beforeTooMany();
        x.step(0, 3, 0);
        return x;
    }

    static LogPlacer lines(LogPlacer x, int... steps) {
        for (int e : steps) {
            x.line(e, true);
        }
        return x;
    }

    /** A line on each step there is. */
    static LogPlacer allLines(LogPlacer x) {
        for (int e = 0; e < x.count(1); e++) {
            x.line(e, true);
        }
        return x;
    }

    /** Twenty bytes: these, and zeroes behind them. */
    static int feedBytes(LogPlacer x, int... first) {
        int[] words = new int[5];
        for (int k = 0; k < first.length; k++) {
            words[k / 4] |= first[k] << 24 - 8 * (k % 4);
        }
        return x.feed(words[0], words[1], words[2], words[3], words[4]);
    }

    /** Feeds these bytes and reads just them. */
    static int readBytes(LogPlacer x, boolean torn, int... bytes) {
        feedBytes(x, bytes);
        return x.read(bytes.length, torn);
    }
}
