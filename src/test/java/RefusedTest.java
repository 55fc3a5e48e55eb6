import java.util.ArrayList;
import java.util.List;
import java.util.function.Predicate;
import java.util.function.Supplier;
import java.util.function.ToLongFunction;

/**
 * "A call that is refused (NONE, false) changes nothing but the tape, where it is told": each call
 * that is refused is made on one of two like objects, and both must answer alike ever after. No
 * promise tells that a refused call changes the tape, so that stays, too.
 */
public final class RefusedTest extends Checks {
    private static final int FALSE = 0;

    /** A call, and what it answers when it is refused. */
    private record Call(String name, long refusal, ToLongFunction<LogPlacer> made) {
    }

    private static final List<Call> CALLS = new ArrayList<>();

    public static void main(String[] args) {
        ofNewOne();
        ofSmallOne();
        ofFullOne();
        ofTwoHundredWays();
        ofTooManyWays();
        finish("RefusedTest");
    }

    private static void none(String name, ToLongFunction<LogPlacer> made) {
        CALLS.add(new Call(name, NONE, made));
    }

    private static void no(String name, Predicate<LogPlacer> made) {
        CALLS.add(new Call(name, FALSE, x -> made.test(x) ? 1 : 0));
    }

    /** Starts the list with what is refused in every state. */
    private static void refusedEverywhere() {
        CALLS.clear();
        changesRefusedEverywhere();
        questionsRefusedEverywhere();
    }

    private static void changesRefusedEverywhere() {
        no("flow(1)", x -> x.flow(1));
        no("flow(13)", x -> x.flow(13));
        no("flow(LEAST)", x -> x.flow(LEAST));
        none("step(-1, 1, 0)", x -> x.step(-1, 1, 0));
        none("step(0, 12, 0)", x -> x.step(0, 12, 0));
        none("step(1, 1, 0)", x -> x.step(1, 1, 0));
        none("step(1, 0, 0)", x -> x.step(1, 0, 0));
        none("step(0, 1, -1)", x -> x.step(0, 1, -1));
        none("step(0, 1, 1000001)", x -> x.step(0, 1, 1000001));
        no("counted(-1, 7)", x -> x.counted(-1, 7));
        no("counted(16, 7)", x -> x.counted(16, 7));
        no("counted(32, 7)", x -> x.counted(32, 7));
        no("counted(0, -1)", x -> x.counted(0, -1));
        no("counted(0, 1000001)", x -> x.counted(0, 1000001));
        for (boolean is : new boolean[] {true, false}) {
            no("line(-1, " + is + ")", x -> x.line(-1, is));
            no("line(16, " + is + ")", x -> x.line(16, is));
            no("line(32, " + is + ")", x -> x.line(32, is));
            no("fault(-1, " + is + ")", x -> x.fault(-1, is));
            no("fault(12, " + is + ")", x -> x.fault(12, is));
            no("fault(32, " + is + ")", x -> x.fault(32, is));
            none("read(-1, " + is + ")", x -> x.read(-1, is));
            none("read(17, " + is + ")", x -> x.read(17, is));
            none("read(MOST, " + is + ")", x -> x.read(MOST, is));
        }
    }

    private static void questionsRefusedEverywhere() {
        for (int i : new int[] {-1, 200, LEAST, MOST}) {
            none("way(" + i + ", 0)", x -> x.way(i, 0));
            none("way(0, " + i + ")", x -> x.way(0, i));
            none("log(" + i + ", 0)", x -> x.log(i, 0));
            none("log(0, " + i + ")", x -> x.log(0, i));
            none("heap(" + i + ")", x -> x.heap(i));
            none("useless(" + i + ")", x -> x.useless(i));
            none("why(" + i + ", 0)", x -> x.why(i, 0));
            none("why(0, " + i + ")", x -> x.why(0, i));
            none("allowed(" + i + ")", x -> x.allowed(i));
            none("found(" + i + ")", x -> x.found(i));
            none("look(" + i + ", 0)", x -> x.look(i, 0));
            none("look(0, " + i + ")", x -> x.look(0, i));
            none("count(" + i + ")", x -> x.count(i));
        }
        none("price(65536)", x -> x.price(65536));
        none("price(-1)", x -> x.price(-1));
    }

    /** With too many ways, the document does not say whether NONE or -2 comes first. */
    private static void refusedUnlessTooMany() {
        for (int what : new int[] {-1, 2, LEAST, MOST}) {
            none("apart(" + what + ")", x -> x.apart(what));
            none("cheapest(" + what + ", false)", x -> x.cheapest(what, false));
            none("cheapest(" + what + ", true)", x -> x.cheapest(what, true));
        }
    }

    private static void changeNothing(String state, Supplier<LogPlacer> maker, int onTape) {
        String untouched = Answers.of(maker.get(), onTape);
        for (Call call : CALLS) {
            sentence("A call that is refused changes nothing: " + state);
            LogPlacer x = maker.get();
            due(call.name(), call.made().applyAsLong(x), call.refusal());
            due(call.name() + " again", call.made().applyAsLong(x), call.refusal());
            due("all answers behind " + call.name(), Answers.of(x, onTape), untouched);
        }
    }

    private static void ofNewOne() {
        refusedEverywhere();
        refusedUnlessTooMany();
        none("step(0, 2, 0)", x -> x.step(0, 2, 0));
        no("counted(0, 0)", x -> x.counted(0, 0));
        no("line(0, true)", x -> x.line(0, true));
        no("line(0, false)", x -> x.line(0, false));
        no("fault(2, true)", x -> x.fault(2, true));
        no("fault(0, false)", x -> x.fault(0, false));
        none("price(1)", x -> x.price(1));
        none("read(1, true)", x -> x.read(1, true));
        none("way(0, 0)", x -> x.way(0, 0));
        none("log(0, 0)", x -> x.log(0, 0));
        none("heap(0)", x -> x.heap(0));
        none("useless(0)", x -> x.useless(0));
        none("why(0, 0)", x -> x.why(0, 0));
        none("allowed(0)", x -> x.allowed(0));
        none("found(0)", x -> x.found(0));
        none("look(0, 0)", x -> x.look(0, 0));
        changeNothing("a new object", LogPlacer::new, 0);
    }

    private static void ofSmallOne() {
        refusedEverywhere();
        refusedUnlessTooMany();
        none("step(0, 4, 0)", x -> x.step(0, 4, 0));
        none("step(3, 4, 0)", x -> x.step(3, 4, 0));
        no("counted(6, 0)", x -> x.counted(6, 0));
        no("line(0, true), it is so", x -> x.line(0, true));
        no("line(1, false), it is so", x -> x.line(1, false));
        no("line(6, true)", x -> x.line(6, true));
        no("fault(1, true), it is so", x -> x.fault(1, true));
        no("fault(0, false), it is so", x -> x.fault(0, false));
        no("fault(4, true)", x -> x.fault(4, true));
        none("price(64)", x -> x.price(64));
        none("way(5, 0)", x -> x.way(5, 0));
        none("way(0, 2)", x -> x.way(0, 2));
        none("log(4, 0)", x -> x.log(4, 0));
        none("heap(5)", x -> x.heap(5));
        none("why(1, 0), no line", x -> x.why(1, 0));
        none("why(0, 2)", x -> x.why(0, 2));
        none("allowed(3)", x -> x.allowed(3));
        none("found(4)", x -> x.found(4));
        none("look(0, 4)", x -> x.look(0, 4));
        none("count(6)", x -> x.count(6));
        changeNothing("some of all", RefusedTest::someOfAll, 3);
    }

    /** A log read, torn, that allows three ways; another one, that allows one way, on the tape. */
    private static LogPlacer someOfAll() {
        LogPlacer x = lines(small(), 0, 3, 4);
        x.fault(1, true);
        x.fault(3, true);
        readBytes(x, true, 0);
        feedBytes(x, 0, 3, 4);
        return x;
    }

    private static void ofFullOne() {
        refusedEverywhere();
        refusedUnlessTooMany();
        none("step(0, 1, 0), 16 are there", x -> x.step(0, 1, 0));
        none("step(10, 11, 1000000), 16 are there", x -> x.step(10, 11, 1000000));
        for (int e = 0; e < 16; e++) {
            int on = e;
            no("line(" + e + ", true), it is so", x -> x.line(on, true));
            none("why(" + e + ", 1), it is useless", x -> x.why(on, 1));
        }
        for (int v = 0; v < 12; v++) {
            int at = v;
            no("fault(" + v + ", true), it is so", x -> x.fault(at, true));
        }
        none("feed, forty are there", x -> x.feed(-1, -1, -1, -1, -1));
        none("useless(16)", x -> x.useless(16));
        none("way(32, 0)", x -> x.way(32, 0));
        none("way(0, 11)", x -> x.way(0, 11));
        none("allowed(32)", x -> x.allowed(32));
        changeNothing("all full", RefusedTest::allFull, 11);
    }

    private static LogPlacer allFull() {
        LogPlacer x = allLines(full());
        for (int v = 0; v < 12; v++) {
            x.fault(v, true);
        }
        x.read(0, true);
        feedBytes(x, 0, 2, 4, 6, 8, 10, 11, 12, 13, 14, 15);
        feedBytes(x, 1, 3);
        return x;
    }

    private static void ofTwoHundredWays() {
        refusedEverywhere();
        refusedUnlessTooMany();
        none("way(199, 4)", x -> x.way(199, 4));
        none("log(199, 4)", x -> x.log(199, 4));
        none("step(0, 4, 0), 16 are there", x -> x.step(0, 4, 0));
        changeNothing("200 ways", RefusedTest::twoHundred, 4);
    }

    private static LogPlacer twoHundred() {
        LogPlacer x = lines(withTwoHundred(), 0, 1, 2, 3, 5, 6, 7, 8, 10, 11, 12, 14);
        x.fault(2, true);
        readBytes(x, true, 1, 5);
        feedBytes(x, 3, 8, 12, 14);
        return x;
    }

    private static void ofTooManyWays() {
        refusedEverywhere();
        none("way(0, 0)", x -> x.way(0, 0));
        none("log(0, 0)", x -> x.log(0, 0));
        none("heap(0)", x -> x.heap(0));
        none("useless(0)", x -> x.useless(0));
        none("why(0, 0)", x -> x.why(0, 0));
        none("allowed(0)", x -> x.allowed(0));
        none("found(0)", x -> x.found(0));
        none("step(0, 1, 0), 16 are there", x -> x.step(0, 1, 0));
        no("line(0, true), it is so", x -> x.line(0, true));
        no("fault(2, true), it is so", x -> x.fault(2, true));
        changeNothing("too many ways", RefusedTest::tooMany, 3);
    }

    private static LogPlacer tooMany() {
        LogPlacer x = lines(withTooMany(), 0, 15);
        x.fault(2, true);
        x.read(0, true);
        feedBytes(x, 0, 15);
        return x;
    }
}
