import java.util.Arrays;

/**
 * Places log lines on the steps of a program that never goes back, and tells what a log says of
 * the way that was gone. The numbered promises are in the document (../shared/DOC.md).
 *
 * <p>Sets of steps and of nodes are bits of an int. As nodes only grow along a way, a way is known
 * by the set of its steps, and their order is that of the nodes they leave.
 */
public final class LogPlacer {
    public static final int NONE = -1;

    private static final int TOO_MANY = -2;
    private static final int FEWEST_NODES = 2;
    private static final int MOST_NODES = 12;
    private static final int MOST_STEPS = 16;
    private static final int MOST_COUNTED = 1000000;
    private static final int MOST_WAYS = 200;
    private static final int MOST_ON_TAPE = 40;
    private static final int MOST_READ = 16;
    private static final int BYTES_OF_INT = 4;
    private static final int FED_AT_ONCE = 5 * BYTES_OF_INT;
    private static final int FIRST_ROOM = 32;

    private final Program program;
    private final Routes routes;
    private final Partings ofWays;
    private final Partings ofFaults;
    private final Search search;
    private final Tape tape;
    private final Reading reading;

    public LogPlacer() {
        program = new Program();
        routes = new Routes();
        ofWays = new Partings();
        ofFaults = new Partings();
        search = new Search(program);
        tape = new Tape();
        reading = new Reading();
    }

    public boolean flow(int n) {
        if (n < FEWEST_NODES || n > MOST_NODES) {
            return false;
        }
        program.restart(n);
        reading.forget();
        forgetWays();
        return true;
    }

    public int step(int a, int b, int counted) {
        boolean fits = program.hasNode(a) && program.hasNode(b) && b > a;
        if (!fits || !canBeCounted(counted) || program.steps >= MOST_STEPS) {
            return NONE;
        }
        forgetWays();
        return program.addStep(a, b, counted);
    }

    public boolean counted(int e, int n) {
        if (!program.hasStep(e) || !canBeCounted(n)) {
            return false;
        }
        program.times[e] = n;
        return true;
    }

    public boolean line(int e, boolean is) {
        if (!program.hasStep(e) || has(program.lines, e) == is) {
            return false;
        }
        program.lines ^= 1 << e;
        return true;
    }

    public boolean fault(int v, boolean is) {
        if (!program.hasNode(v) || has(program.faults, v) == is) {
            return false;
        }
        program.faults ^= 1 << v;
        ofFaults.stale = true;
        return true;
    }

    public int ways() {
        return tooMany() ? TOO_MANY : routes.number;
    }

    public int way(int i, int k) {
        return hasWay(i) ? program.stepAt(routes.stepSets[i], k) : NONE;
    }

    public int log(int i, int k) {
        return hasWay(i) ? program.stepAt(routes.stepSets[i] & program.lines, k) : NONE;
    }

    public int heaps() {
        return tooMany() ? TOO_MANY : routes.logsUnlike(program.lines);
    }

    public int heap(int i) {
        return hasWay(i) ? routes.firstLike(i, program.lines) : NONE;
    }

    public int apart(int what) {
        if (!isWaysOrFaults(what)) {
            return NONE;
        }
        if (tooMany()) {
            return TOO_MANY;
        }
        return partings(what).allMetBy(program.lines) ? 1 : 0;
    }

    public int cheapest(int what, boolean beside) {
        if (!isWaysOrFaults(what)) {
            return NONE;
        }
        if (tooMany()) {
            return TOO_MANY;
        }
        return search.cheapestWith(beside ? program.lines : 0, partings(what));
    }

    public long price(int set) {
        return (set & ~program.allSteps()) == 0 ? program.priceOf(set) : NONE;
    }

    public int useless(int i) {
        if (tooMany()) {
            return NONE;
        }
        return member(program.lines & ~routes.soleParters(program.lines), i);
    }

    public int why(int e, int what) {
        if (!isFirstOrOther(what) || !program.hasStep(e) || !has(program.lines, e) || tooMany()) {
            return NONE;
        }
        int pair = routes.firstPairPartedBy(1 << e, program.lines);
        if (pair == NONE) {
            return NONE;
        }
        return what == 0 ? pair / MOST_WAYS : pair % MOST_WAYS;
    }

    public int feed(int a, int b, int c, int d, int e) {
        if (tape.length + FED_AT_ONCE > MOST_ON_TAPE) {
            return NONE;
        }
        tape.put(a);
        tape.put(b);
        tape.put(c);
        tape.put(d);
        tape.put(e);
        return tape.length;
    }

    public int read(int n, boolean torn) {
        if (n < 0 || n > MOST_READ || n > tape.length) {
            return NONE;
        }
        reading.take(tape, n, torn);
        tape.length = 0;
        if (tooMany()) {
            return TOO_MANY;
        }
        reading.fit(program);
        return reading.howManyOf(routes);
    }

    public int allowed(int i) {
        if (tooMany()) {
            return NONE;
        }
        reading.fit(program);
        return reading.memberOf(routes, i);
    }

    public int found(int what) {
        if (what < 0 || what > 3 || tooMany()) {
            return NONE;
        }
        reading.fit(program);
        if (reading.howManyOf(routes) == 0) {
            return NONE;
        }
        int[] sets = what < 2 ? routes.stepSets : routes.nodeSets;
        int asked = what < 2 ? program.allSteps() : program.faults;
        boolean sure = what % 2 == 0;
        return asked & (sure ? reading.inAll(routes, sets) : reading.inSome(routes, sets));
    }

    public int look(int e, int what) {
        if (!program.hasStep(e)) {
            return NONE;
        }
        switch (what) {
            case 0:
                return program.from[e];
            case 1:
                return program.to[e];
            case 2:
                return program.times[e];
            case 3:
                return has(program.lines, e) ? 1 : 0;
            default:
                return NONE;
        }
    }

    public long count(int what) {
        switch (what) {
            case 0:
                return program.nodes;
            case 1:
                return program.steps;
            case 2:
                return Integer.bitCount(program.lines);
            case 3:
                return Integer.bitCount(program.faults);
            case 4:
                return program.priceOf(program.lines);
            case 5:
                return tape.length;
            default:
                return NONE;
        }
    }

    private static boolean canBeCounted(int n) {
        return n >= 0 && n <= MOST_COUNTED;
    }

    private static boolean isWaysOrFaults(int what) {
        return what == 0 || what == 1;
    }

    private static boolean isFirstOrOther(int what) {
        return what == 0 || what == 1;
    }

    private static boolean has(int set, int member) {
        return (set >> member & 1) == 1;
    }

    /** The i-th member of a set of steps, the lowest first. */
    private static int member(int set, int i) {
        int left = i;
        for (int e = 0; e < MOST_STEPS; e++) {
            if (has(set, e)) {
                if (left == 0) {
                    return e;
                }
                left--;
            }
        }
        return NONE;
    }

    private void forgetWays() {
        routes.stale = true;
        ofWays.stale = true;
        ofFaults.stale = true;
    }

    private boolean tooMany() {
        if (routes.stale) {
            routes.gather(program);
        }
        return routes.tooMany;
    }

    private boolean hasWay(int i) {
        return !tooMany() && i >= 0 && i < routes.number;
    }

    /** Only to be asked when there are not too many ways. */
    private Partings partings(int what) {
        Partings asked = what == 0 ? ofWays : ofFaults;
        if (asked.stale) {
            asked.gather(routes, what == 0, program.faults);
        }
        return asked;
    }

    /** The flow: its nodes and steps, with the lines and faults on them. */
    private static final class Program {
        final int[] from = new int[MOST_STEPS];
        final int[] to = new int[MOST_STEPS];
        final int[] times = new int[MOST_STEPS];
        final int[] leaving = new int[MOST_NODES];
        int nodes = FEWEST_NODES;
        int steps;
        int lines;
        int faults;

        void restart(int n) {
            nodes = n;
            steps = 0;
            lines = 0;
            faults = 0;
            Arrays.fill(leaving, 0);
        }

        boolean hasNode(int v) {
            return v >= 0 && v < nodes;
        }

        boolean hasStep(int e) {
            return e >= 0 && e < steps;
        }

        int addStep(int a, int b, int counted) {
            int e = steps;
            from[e] = a;
            to[e] = b;
            times[e] = counted;
            leaving[a] |= 1 << e;
            steps++;
            return e;
        }

        int allSteps() {
            return (1 << steps) - 1;
        }

        int stepsFromBelow(int node) {
            int set = 0;
            for (int v = 0; v < node && v < nodes; v++) {
                set |= leaving[v];
            }
            return set;
        }

        long priceOf(int set) {
            long sum = 0;
            for (int e = 0; e < steps; e++) {
                if (has(set, e)) {
                    sum += times[e] + 1;
                }
            }
            return sum;
        }

        /** The k-th step of a way, or of some of a way's steps, in the way's order. */
        int stepAt(int someOfWay, int k) {
            int left = k;
            for (int v = 0; v < nodes; v++) {
                int taken = someOfWay & leaving[v];
                if (taken != 0) {
                    if (left == 0) {
                        return member(taken, 0);
                    }
                    left--;
                }
            }
            return NONE;
        }
    }

    /** All ways, in order; they are gathered anew only after the steps have changed. */
    private static final class Routes {
        final int[] stepSets = new int[MOST_WAYS];
        final int[] nodeSets = new int[MOST_WAYS];
        int number;
        boolean tooMany;
        boolean stale = true;

        void gather(Program program) {
            number = 0;
            tooMany = false;
            stale = false;
            follow(this, program, 0, 0, 1, 0);
        }

        private static void follow(
                Routes routes, Program program, int node, int stepSet, int nodeSet, int depth) {
            if (depth >= MOST_NODES || routes.tooMany) {
                return;
            }
            if (node == program.nodes - 1) {
                routes.add(stepSet, nodeSet);
                return;
            }
            for (int e = 0; e < program.steps; e++) {
                if (program.from[e] == node) {
                    int next = program.to[e];
                    follow(routes, program, next, stepSet | 1 << e, nodeSet | 1 << next, depth + 1);
                }
            }
        }

        private void add(int stepSet, int nodeSet) {
            if (number >= MOST_WAYS) {
                tooMany = true;
                return;
            }
            stepSets[number] = stepSet;
            nodeSets[number] = nodeSet;
            number++;
        }

        int firstLike(int i, int lines) {
            int own = stepSets[i] & lines;
            for (int j = 0; j < i; j++) {
                if ((stepSets[j] & lines) == own) {
                    return j;
                }
            }
            return i;
        }

        int logsUnlike(int lines) {
            int unlike = 0;
            for (int i = 0; i < number; i++) {
                if (firstLike(i, lines) == i) {
                    unlike++;
                }
            }
            return unlike;
        }

        /** The lines that alone part some two ways: without one of these, heaps would be fewer. */
        int soleParters(int lines) {
            int sole = 0;
            for (int i = 0; i < number && sole != lines; i++) {
                for (int j = i + 1; j < number; j++) {
                    int parting = (stepSets[i] ^ stepSets[j]) & lines;
                    if (Integer.bitCount(parting) == 1) {
                        sole |= parting;
                    }
                }
            }
            return sole;
        }

        /** The first two ways that this line alone parts, as first * MOST_WAYS + other. */
        int firstPairPartedBy(int line, int lines) {
            for (int i = 0; i < number; i++) {
                for (int j = i + 1; j < number; j++) {
                    if (((stepSets[i] ^ stepSets[j]) & lines) == line) {
                        return i * MOST_WAYS + j;
                    }
                }
            }
            return NONE;
        }
    }

    /**
     * The sets of steps of which lines must meet each, to tell apart: for two ways, the steps that
     * only one of them has. Sets that have another one in them are left out: meeting that one meets
     * them, too. As ways are gathered in order, the one in them always comes first: if two ways go
     * apart and meet again more than once, some two that come earlier do so at one of the places.
     */
    private static final class Partings {
        int[] sets = new int[FIRST_ROOM];
        int number;
        boolean stale = true;

        void gather(Routes routes, boolean eachTwo, int faults) {
            number = 0;
            stale = false;
            for (int i = 0; i < routes.number; i++) {
                for (int j = i + 1; j < routes.number; j++) {
                    boolean faultsUnlike =
                            ((routes.nodeSets[i] ^ routes.nodeSets[j]) & faults) != 0;
                    if (eachTwo || faultsUnlike) {
                        add(routes.stepSets[i] ^ routes.stepSets[j]);
                    }
                }
            }
        }

        private void add(int set) {
            for (int k = 0; k < number; k++) {
                if ((sets[k] & ~set) == 0) {
                    return;
                }
            }
            if (number >= sets.length) {
                sets = Arrays.copyOf(sets, 2 * sets.length);
            }
            sets[number] = set;
            number++;
        }

        boolean allMetBy(int chosen) {
            return firstNotMetBy(chosen, 0) == number;
        }

        int firstNotMetBy(int chosen, int start) {
            for (int k = start; k < number; k++) {
                if ((sets[k] & chosen) == 0) {
                    return k;
                }
            }
            return number;
        }
    }

    /** The search for the cheapest steps that meet all partings. */
    private static final class Search {
        private final Program program;
        private int best;
        private long bestPrice;

        Search(Program searched) {
            program = searched;
        }

        int cheapestWith(int given, Partings partings) {
            best = program.allSteps();
            bestPrice = program.priceOf(best);
            choose(this, partings, 0, given, 0, program.priceOf(given), 0);
            return best;
        }

        /**
         * Tries each step of the first parting that is not met yet. A step that has been tried is
         * barred behind it, so that no set is tried twice.
         */
        private static void choose(
                Search search,
                Partings partings,
                int start,
                int chosen,
                int barred,
                long price,
                int depth) {
            int open = partings.firstNotMetBy(chosen, start);
            if (open >= partings.number) {
                search.offer(chosen, price);
                return;
            }
            if (depth >= MOST_STEPS) {
                return;
            }
            int tried = barred;
            for (int e = 0; e < search.program.steps; e++) {
                if (has(partings.sets[open] & ~tried, e)) {
                    int more = chosen | 1 << e;
                    long dearer = price + search.program.times[e] + 1;
                    if (dearer <= search.bestPrice) {
                        choose(search, partings, open + 1, more, tried, dearer, depth + 1);
                    }
                    tried |= 1 << e;
                }
            }
        }

        private void offer(int set, long price) {
            if (price < bestPrice || price == bestPrice && isRatherThan(set, best)) {
                best = set;
                bestPrice = price;
            }
        }

        private static boolean isRatherThan(int set, int other) {
            int more = Integer.bitCount(set) - Integer.bitCount(other);
            int unlike = set ^ other;
            int lowest = unlike & -unlike;
            return more < 0 || more == 0 && (set & lowest) != 0;
        }
    }

    /** The bytes that were fed and not read yet. */
    private static final class Tape {
        final int[] bytes = new int[MOST_ON_TAPE];
        int length;

        void put(int word) {
            for (int k = BYTES_OF_INT - 1; k >= 0 && length < MOST_ON_TAPE; k--) {
                bytes[length] = word >> 8 * k & 255;
                length++;
            }
        }
    }

    /** The log that was read last; bytes that are no steps are kept, as steps may come later. */
    private static final class Reading {
        final int[] told = new int[MOST_READ];
        int length = NONE;
        boolean torn;
        boolean possible;
        int toldSet;
        int heard;

        void forget() {
            length = NONE;
        }

        void take(Tape tape, int n, boolean isTorn) {
            for (int k = 0; k < n; k++) {
                told[k] = tape.bytes[k];
            }
            length = n;
            torn = isTorn;
        }

        /**
         * Turns the log into what a way must have of the lines that are heard. All lines are heard
         * but, if it is torn, those that could only come behind its last one.
         */
        void fit(Program program) {
            possible = length != NONE;
            toldSet = 0;
            int node = 0;
            for (int k = 0; k < length; k++) {
                int e = told[k];
                if (!program.hasStep(e) || program.from[e] < node) {
                    possible = false;
                    return;
                }
                toldSet |= 1 << e;
                node = program.from[e] + 1;
            }
            heard = program.lines & (torn ? program.stepsFromBelow(node) : program.allSteps());
        }

        boolean allows(int stepSet) {
            return possible && (stepSet & heard) == toldSet;
        }

        int howManyOf(Routes routes) {
            int number = 0;
            for (int i = 0; i < routes.number; i++) {
                if (allows(routes.stepSets[i])) {
                    number++;
                }
            }
            return number;
        }

        int memberOf(Routes routes, int i) {
            int left = i;
            for (int w = 0; w < routes.number; w++) {
                if (allows(routes.stepSets[w])) {
                    if (left == 0) {
                        return w;
                    }
                    left--;
                }
            }
            return NONE;
        }

        int inAll(Routes routes, int[] sets) {
            int common = -1;
            for (int w = 0; w < routes.number; w++) {
                if (allows(routes.stepSets[w])) {
                    common &= sets[w];
                }
            }
            return common;
        }

        int inSome(Routes routes, int[] sets) {
            int joined = 0;
            for (int w = 0; w < routes.number; w++) {
                if (allows(routes.stepSets[w])) {
                    joined |= sets[w];
                }
            }
            return joined;
        }
    }
}
