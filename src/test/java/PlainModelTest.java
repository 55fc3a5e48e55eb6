import java.util.ArrayList;
import java.util.HashSet;
import java.util.List;
import java.util.Set;
import java.util.TreeSet;

/**
 * Long runs of mixed calls, right and wrong ones, on a LogPlacer and on a plain model of the
 * document that knows nothing of bits and tries every set of steps. The runs are always the same.
 */
public final class PlainModelTest {
    private static final int NONE = -1;
    private static final int CALLS = 512;
    private static int wrong = 0;

    public static void main(String[] args) {
        for (int run = 0; run < 1500 && wrong < 20; run++) {
            mixedRun(run, 9);
        }
        for (int run = 0; run < 60 && wrong < 20; run++) {
            cheapestOfManySteps(10000 + run);
        }
        System.out.println(wrong == 0 ? "PlainModelTest: all as due" : "PlainModelTest: " + wrong + " wrong");
        if (wrong != 0) {
            System.exit(1);
        }
    }

    private static void mixedRun(int run, int mostSteps) {
        Dice dice = new Dice(run);
        LogPlacer placer = new LogPlacer();
        Model model = new Model();
        // Some runs may have many steps, but then no search through all sets of them is asked.
        boolean many = dice.below(4) == 0;
        int limit = many ? 17 : mostSteps;
        int fresh = many ? 150 : 60;
        for (int call = 0; call < CALLS; call++) {
            if (call == 0 && dice.below(8) != 0 || dice.below(fresh) == 0) {
                int n = many ? 2 + dice.below(6) : dice.near(2, 12);
                due(run, "flow(" + n + ")", placer.flow(n) ? 1 : 0, model.flow(n) ? 1 : 0);
            } else if (dice.below(7) == 0 && model.from.size() < limit) {
                int a = dice.near(0, model.n - 1);
                int b = dice.below(10) == 0 ? dice.near(0, model.n - 1) : a + 1 + dice.below(dice.below(3) + 1);
                int c = dice.below(3) == 0 ? dice.near(0, 1000000) : dice.below(3);
                due(run, "step(" + a + "," + b + "," + c + ")", placer.step(a, b, c), model.step(a, b, c));
            } else if (call % 2 == 0) {
                change(run, dice, placer, model);
            } else {
                ask(run, dice, placer, model, !many);
            }
        }
    }

    private static void change(int run, Dice dice, LogPlacer placer, Model model) {
        int e = dice.near(0, model.from.size() - 1);
        boolean is = dice.below(3) != 0;
        switch (dice.below(6)) {
            case 0: {
                int c = dice.below(2) == 0 ? dice.near(0, 1000000) : dice.below(4);
                due(run, "counted(" + e + "," + c + ")", placer.counted(e, c) ? 1 : 0, model.counted(e, c) ? 1 : 0);
                break;
            }
            case 1:
            case 2:
                due(run, "line(" + e + "," + is + ")", placer.line(e, is) ? 1 : 0, model.line(e, is) ? 1 : 0);
                break;
            case 3: {
                int v = dice.near(0, model.n - 1);
                due(run, "fault(" + v + "," + is + ")", placer.fault(v, is) ? 1 : 0, model.fault(v, is) ? 1 : 0);
                break;
            }
            case 4: {
                int[] w = dice.words(model);
                due(run, "feed", placer.feed(w[0], w[1], w[2], w[3], w[4]), model.feed(w));
                break;
            }
            default: {
                int n = dice.below(6) == 0 ? dice.near(0, 16) : dice.below(4);
                due(run, "read(" + n + "," + is + ")", placer.read(n, is), model.read(n, is));
            }
        }
    }

    private static void ask(int run, Dice dice, LogPlacer placer, Model model, boolean cheapest) {
        int i = dice.near(0, Math.max(1, model.ways().size() - 1));
        int k = dice.near(0, 5);
        int e = dice.near(0, model.from.size() - 1);
        int what = dice.near(0, 1);
        switch (dice.below(15)) {
            case 0:
                due(run, "ways", placer.ways(), model.tooMany() ? -2 : model.ways().size());
                break;
            case 1:
                due(run, "way(" + i + "," + k + ")", placer.way(i, k), model.way(i, k));
                break;
            case 2:
                due(run, "log(" + i + "," + k + ")", placer.log(i, k), model.log(i, k));
                break;
            case 3:
                due(run, "heaps", placer.heaps(), model.tooMany() ? -2 : model.heaps(model.lines));
                break;
            case 4:
                due(run, "heap(" + i + ")", placer.heap(i), model.heap(i));
                break;
            case 5:
                if (!isUntold(what, model)) {
                    due(run, "apart(" + what + ")", placer.apart(what), model.apart(what));
                }
                break;
            case 6:
                if (cheapest && !isUntold(what, model)) {
                    boolean beside = dice.below(2) == 0;
                    due(run, "cheapest(" + what + "," + beside + ")",
                            placer.cheapest(what, beside), model.cheapest(what, beside));
                }
                break;
            case 7: {
                int set = dice.below(4) == 0 ? dice.word() : dice.below(1 << model.from.size());
                due(run, "price(" + set + ")", placer.price(set), model.price(set));
                break;
            }
            case 8: {
                int u = dice.near(0, 2);
                due(run, "useless(" + u + ")", placer.useless(u), model.useless(u));
                break;
            }
            case 9:
            case 10:
                due(run, "why(" + e + "," + what + ")", placer.why(e, what), model.why(e, what));
                break;
            case 11:
                due(run, "allowed(" + i + ")", placer.allowed(i), model.allowed(i));
                break;
            case 12: {
                int f = dice.near(0, 3);
                due(run, "found(" + f + ")", placer.found(f), model.found(f));
                break;
            }
            case 13: {
                int l = dice.near(0, 3);
                due(run, "look(" + e + "," + l + ")", placer.look(e, l), model.look(e, l));
                break;
            }
            default: {
                int c = dice.near(0, 5);
                due(run, "count(" + c + ")", placer.count(c), model.count(c));
            }
        }
    }

    /** Whether NONE or -2 comes first the document does not say. */
    private static boolean isUntold(int what, Model model) {
        return what != 0 && what != 1 && model.tooMany();
    }

    /** The plain search through all 65536 sets is slow, so these runs are short. */
    private static void cheapestOfManySteps(int run) {
        Dice dice = new Dice(run);
        LogPlacer placer = new LogPlacer();
        Model model = new Model();
        int n = 2 + dice.below(11);
        placer.flow(n);
        model.flow(n);
        int steps = 12 + dice.below(5);
        int kinds = dice.below(3) == 0 ? 1000001 : 1 + dice.below(4);
        for (int e = 0; e < steps; e++) {
            int a = e < n - 1 ? e : dice.below(n - 1);
            int b = e < n - 1 ? e + 1 : Math.min(n - 1, a + 1 + dice.below(3));
            int c = dice.below(kinds);
            due(run, "step", placer.step(a, b, c), model.step(a, b, c));
        }
        for (int v = 0; v < n; v++) {
            if (dice.below(3) == 0) {
                placer.fault(v, true);
                model.fault(v, true);
            }
        }
        for (int e = 0; e < 2; e++) {
            int on = dice.below(steps);
            due(run, "line", placer.line(on, true) ? 1 : 0, model.line(on, true) ? 1 : 0);
        }
        for (int what = 0; what < 2; what++) {
            due(run, "cheapest(" + what + ",false)", placer.cheapest(what, false), model.cheapest(what, false));
            due(run, "cheapest(" + what + ",true)", placer.cheapest(what, true), model.cheapest(what, true));
        }
    }

    private static void due(int run, String call, long got, long want) {
        if (got != want) {
            wrong++;
            System.out.println("model run " + run + ": " + call + " answered " + got + ", due is " + want);
        }
    }

    /** Numbers that look mixed and are the same each time. */
    private static final class Dice {
        private long state;

        Dice(int seed) {
            state = seed * 7919L + 12345;
        }

        int word() {
            state = state * 6364136223846793005L + 1442695040888963407L;
            return (int) (state >>> 29);
        }

        int below(int bound) {
            return bound < 1 ? 0 : Math.floorMod(word() >>> 3, bound);
        }

        /** Mostly in the range; sometimes an edge, a step beyond it, or far away. */
        int near(int low, int high) {
            switch (below(24)) {
                case 0:
                    return low - 1;
                case 1:
                    return high + 1;
                case 2:
                    return high;
                case 3:
                    return low;
                case 4:
                    return below(6) == 0 ? (below(2) == 0 ? Integer.MIN_VALUE : Integer.MAX_VALUE) : low;
                default:
                    return low + below(high - low + 1);
            }
        }

        /** Words whose first bytes often are the log of some way, or nearly so. */
        int[] words(Model model) {
            int[] bytes = new int[20];
            for (int k = 0; k < bytes.length; k++) {
                bytes[k] = below(3) == 0 ? word() & 255 : below(model.from.size() + 1);
            }
            int some = below(200);
            if (!model.tooMany() && some < model.ways().size() * 4) {
                List<Integer> log = model.logOf(model.ways().get(some % model.ways().size()), model.lines);
                for (int k = 0; k < log.size(); k++) {
                    bytes[k] = log.get(k);
                }
            }
            int[] words = new int[5];
            for (int k = 0; k < bytes.length; k++) {
                words[k / 4] = words[k / 4] * 256 + bytes[k];
            }
            return words;
        }
    }

    /** The document, word by word, with lists. */
    private static final class Model {
        int n = 2;
        final List<Integer> from = new ArrayList<>();
        final List<Integer> to = new ArrayList<>();
        final List<Integer> counted = new ArrayList<>();
        final Set<Integer> lines = new TreeSet<>();
        final Set<Integer> faults = new TreeSet<>();
        final List<Integer> tape = new ArrayList<>();
        List<Integer> lastRead = null;
        boolean lastTorn;
        private List<List<Integer>> known = null;

        boolean flow(int nodes) {
            if (nodes < 2 || nodes > 12) {
                return false;
            }
            n = nodes;
            from.clear();
            to.clear();
            counted.clear();
            lines.clear();
            faults.clear();
            lastRead = null;
            known = null;
            return true;
        }

        int step(int a, int b, int c) {
            if (a < 0 || b < 0 || a >= n || b >= n || b <= a || c < 0 || c > 1000000 || from.size() == 16) {
                return NONE;
            }
            from.add(a);
            to.add(b);
            counted.add(c);
            known = null;
            return from.size() - 1;
        }

        boolean isStep(int e) {
            return e >= 0 && e < from.size();
        }

        boolean counted(int e, int c) {
            if (!isStep(e) || c < 0 || c > 1000000) {
                return false;
            }
            counted.set(e, c);
            return true;
        }

        boolean line(int e, boolean is) {
            return isStep(e) && (is ? lines.add(e) : lines.remove(e));
        }

        boolean fault(int v, boolean is) {
            return v >= 0 && v < n && (is ? faults.add(v) : faults.remove(v));
        }

        List<List<Integer>> ways() {
            if (known == null) {
                known = new ArrayList<>();
                grow(0, new ArrayList<>());
                known.sort(Model::compareWays);
            }
            return known;
        }

        private static int compareWays(List<Integer> a, List<Integer> b) {
            for (int k = 0; k < a.size() && k < b.size(); k++) {
                if (!a.get(k).equals(b.get(k))) {
                    return Integer.compare(a.get(k), b.get(k));
                }
            }
            return Integer.compare(a.size(), b.size());
        }

        private void grow(int node, List<Integer> gone) {
            if (node == n - 1) {
                known.add(new ArrayList<>(gone));
            }
            for (int e = from.size() - 1; e >= 0; e--) {
                if (from.get(e) == node) {
                    gone.add(e);
                    grow(to.get(e), gone);
                    gone.remove(gone.size() - 1);
                }
            }
        }

        boolean tooMany() {
            return ways().size() > 200;
        }

        boolean isWay(int i) {
            return !tooMany() && i >= 0 && i < ways().size();
        }

        int way(int i, int k) {
            return isWay(i) && k >= 0 && k < ways().get(i).size() ? ways().get(i).get(k) : NONE;
        }

        List<Integer> logOf(List<Integer> way, Set<Integer> on) {
            List<Integer> log = new ArrayList<>();
            for (int e : way) {
                if (on.contains(e)) {
                    log.add(e);
                }
            }
            return log;
        }

        int log(int i, int k) {
            if (!isWay(i)) {
                return NONE;
            }
            List<Integer> log = logOf(ways().get(i), lines);
            return k >= 0 && k < log.size() ? log.get(k) : NONE;
        }

        int heaps(Set<Integer> on) {
            Set<List<Integer>> logs = new HashSet<>();
            for (List<Integer> way : ways()) {
                logs.add(logOf(way, on));
            }
            return logs.size();
        }

        int heap(int i) {
            if (!isWay(i)) {
                return NONE;
            }
            int first = 0;
            while (!logOf(ways().get(first), lines).equals(logOf(ways().get(i), lines))) {
                first++;
            }
            return first;
        }

        Set<Integer> faultsOf(List<Integer> way) {
            Set<Integer> own = new TreeSet<>();
            own.add(0);
            for (int e : way) {
                own.add(to.get(e));
            }
            own.retainAll(faults);
            return own;
        }

        boolean tells(int what, Set<Integer> on) {
            List<List<Integer>> logs = new ArrayList<>();
            List<Set<Integer>> marks = new ArrayList<>();
            for (List<Integer> way : ways()) {
                List<Integer> log = logOf(way, on);
                Set<Integer> mark = what == 1 ? faultsOf(way) : null;
                for (int j = 0; j < logs.size(); j++) {
                    if (logs.get(j).equals(log) && (what == 0 || !marks.get(j).equals(mark))) {
                        return false;
                    }
                }
                logs.add(log);
                marks.add(mark);
            }
            return true;
        }

        int apart(int what) {
            if (what != 0 && what != 1) {
                return NONE;
            }
            return tooMany() ? -2 : tells(what, lines) ? 1 : 0;
        }

        Set<Integer> setOf(int bits) {
            Set<Integer> set = new TreeSet<>();
            for (int e = 0; e < from.size(); e++) {
                if ((bits >> e) % 2 != 0) {
                    set.add(e);
                }
            }
            return set;
        }

        int cheapest(int what, boolean beside) {
            if (what != 0 && what != 1) {
                return NONE;
            }
            if (tooMany()) {
                return -2;
            }
            int best = NONE;
            for (int bits = 0; bits < 1 << from.size(); bits++) {
                Set<Integer> set = setOf(bits);
                boolean may = !beside || set.containsAll(lines);
                if (may && (best == NONE || isCheaper(bits, best)) && tells(what, set)) {
                    best = bits;
                }
            }
            return best;
        }

        private boolean isCheaper(int one, int other) {
            if (price(one) != price(other)) {
                return price(one) < price(other);
            }
            Set<Integer> a = setOf(one);
            Set<Integer> b = setOf(other);
            if (a.size() != b.size()) {
                return a.size() < b.size();
            }
            int e = 0;
            while (e < from.size() && a.contains(e) == b.contains(e)) {
                e++;
            }
            return a.contains(e);
        }

        long price(int bits) {
            long sum = 0;
            for (int e = 0; e < 32; e++) {
                if ((bits & 1 << e) != 0) {
                    if (e >= from.size()) {
                        return NONE;
                    }
                    sum += counted.get(e) + 1;
                }
            }
            return sum;
        }

        private Set<Integer> without(int e) {
            Set<Integer> rest = new TreeSet<>(lines);
            rest.remove(e);
            return rest;
        }

        boolean isUseless(int e) {
            return heaps(without(e)) == heaps(lines);
        }

        int useless(int i) {
            List<Integer> all = new ArrayList<>();
            if (!tooMany()) {
                for (int e : lines) {
                    if (isUseless(e)) {
                        all.add(e);
                    }
                }
            }
            return i >= 0 && i < all.size() ? all.get(i) : NONE;
        }

        int why(int e, int what) {
            if (tooMany() || !lines.contains(e) || what != 0 && what != 1 || isUseless(e)) {
                return NONE;
            }
            Set<Integer> rest = without(e);
            for (int i = 0; i < ways().size(); i++) {
                for (int j = 0; j < ways().size(); j++) {
                    List<Integer> a = ways().get(i);
                    List<Integer> b = ways().get(j);
                    if (!logOf(a, lines).equals(logOf(b, lines)) && logOf(a, rest).equals(logOf(b, rest))) {
                        return what == 0 ? i : j;
                    }
                }
            }
            return NONE;
        }

        int feed(int[] words) {
            if (tape.size() > 20) {
                return NONE;
            }
            for (int word : words) {
                tape.add(word >>> 24);
                tape.add(word >>> 16 & 255);
                tape.add(word >>> 8 & 255);
                tape.add(word & 255);
            }
            return tape.size();
        }

        int read(int count, boolean torn) {
            if (count < 0 || count > 16 || count > tape.size()) {
                return NONE;
            }
            lastRead = new ArrayList<>(tape.subList(0, count));
            lastTorn = torn;
            tape.clear();
            return tooMany() ? -2 : allowing().size();
        }

        List<Integer> allowing() {
            List<Integer> all = new ArrayList<>();
            if (lastRead == null || tooMany()) {
                return all;
            }
            for (int i = 0; i < ways().size(); i++) {
                List<Integer> log = logOf(ways().get(i), lines);
                boolean begins = log.size() >= lastRead.size() && log.subList(0, lastRead.size()).equals(lastRead);
                if (lastTorn ? begins : log.equals(lastRead)) {
                    all.add(i);
                }
            }
            return all;
        }

        int allowed(int i) {
            List<Integer> all = allowing();
            return i >= 0 && i < all.size() ? all.get(i) : NONE;
        }

        int found(int what) {
            List<Integer> all = allowing();
            if (what < 0 || what > 3 || all.isEmpty()) {
                return NONE;
            }
            int bits = 0;
            for (int x = 0; x < 16; x++) {
                int having = 0;
                for (int i : all) {
                    List<Integer> way = ways().get(i);
                    if (what < 2 ? way.contains(x) : faultsOf(way).contains(x)) {
                        having++;
                    }
                }
                if (what % 2 == 0 ? having == all.size() : having > 0) {
                    bits += 1 << x;
                }
            }
            return bits;
        }

        int look(int e, int what) {
            if (!isStep(e)) {
                return NONE;
            }
            return what == 0 ? from.get(e) : what == 1 ? to.get(e) : what == 2 ? counted.get(e)
                    : what == 3 ? (lines.contains(e) ? 1 : 0) : NONE;
        }

        long count(int what) {
            long all = 0;
            for (int e : lines) {
                all += counted.get(e) + 1;
            }
            long[] answers = {n, from.size(), lines.size(), faults.size(), all, tape.size()};
            return what >= 0 && what < answers.length ? answers[what] : NONE;
        }
    }
}
