import java.util.function.IntUnaryOperator;

/** All that an object answers, in one text; so two objects can be held against each other. */
final class Answers {
    private final LogPlacer placer;
    private final int steps;
    private final StringBuilder text = new StringBuilder();

    private Answers(LogPlacer placer) {
        this.placer = placer;
        steps = (int) placer.count(1);
    }

    /** All but what stands on the tape: none of these calls changes the object. */
    static String butTheTape(LogPlacer placer) {
        return new Answers(placer).put().text.toString();
    }

    /** The tape shows itself only by being read: at last, this reads so many bytes of it. */
    static String of(LogPlacer placer, int onTape) {
        Answers all = new Answers(placer).put();
        all.put(" read", placer.read(onTape, false));
        all.log();
        all.put(" behind", placer.count(5));
        return all.text.toString();
    }

    private Answers put() {
        flow();
        ways();
        lines();
        log();
        return this;
    }

    private void put(String name, long answer) {
        text.append(name).append(' ').append(answer);
    }

    /** All answers up to the first NONE. */
    private void putRow(String name, IntUnaryOperator asked) {
        text.append(name);
        int answer = asked.applyAsInt(0);
        for (int k = 1; answer != LogPlacer.NONE && k < 20; k++) {
            put("", answer);
            answer = asked.applyAsInt(k);
        }
    }

    private void flow() {
        for (int what = 0; what < 6; what++) {
            put(" count", placer.count(what));
        }
        for (int e = 0; e < steps; e++) {
            for (int what = 0; what < 4; what++) {
                put(what == 0 ? " look" : "", placer.look(e, what));
            }
        }
        put(" price", placer.price((1 << steps) - 1));
    }

    /** Of many ways only the first and the last, as an object has but 512 calls. */
    private void ways() {
        int ways = placer.ways();
        put(" ways", ways);
        put(" heaps", placer.heaps());
        for (int i = 0; i < ways; i = i == 4 && ways > 8 ? ways - 3 : i + 1) {
            put(" heap", placer.heap(i));
            int way = i;
            putRow(" way", k -> placer.way(way, k));
            putRow(" log", k -> placer.log(way, k));
        }
    }

    private void lines() {
        for (int what = 0; what < 2; what++) {
            put(" apart", placer.apart(what));
            put(" cheapest", placer.cheapest(what, false));
            put(" beside", placer.cheapest(what, true));
        }
        putRow(" useless", placer::useless);
        for (int e = 0; e < steps; e++) {
            put(" why", placer.why(e, 0));
            put("", placer.why(e, 1));
        }
    }

    private void log() {
        for (int i = 0; i < 6; i++) {
            put(i == 0 ? " allowed" : "", placer.allowed(i));
        }
        for (int what = 0; what < 4; what++) {
            put(what == 0 ? " found" : "", placer.found(what));
        }
    }
}
