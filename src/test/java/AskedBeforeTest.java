import java.util.function.Consumer;
import java.util.function.Supplier;

/**
 * An answer is by the object as it is now: what was asked before a change is asked again behind
 * it, and must be answered as by an object that was not asked before.
 */
public final class AskedBeforeTest extends Checks {
    public static void main(String[] args) {
        askedBefore("a new object", LogPlacer::new, 0);
        askedBefore("some of all", AskedBeforeTest::someOfAll, 3);
        askedBefore("too many with one step more", AskedBeforeTest::nearlyTooMany, 2);
        askedBefore("too many", AskedBeforeTest::tooMany, 2);
        finish("AskedBeforeTest");
    }

    private static LogPlacer someOfAll() {
        LogPlacer x = lines(small(), 0, 3, 4);
        x.fault(1, true);
        readBytes(x, true, 0);
        feedBytes(x, 0, 3, 4);
        return x;
    }

    private static LogPlacer nearlyTooMany() {
        LogPlacer x = lines(beforeTooMany(), 0, 1);
        x.fault(2, true);
        x.read(0, true);
        feedBytes(x, 0, 1);
        return x;
    }

    private static LogPlacer tooMany() {
        LogPlacer x = nearlyTooMany();
        x.step(0, 3, 0);
        return x;
    }

    private static void askedBefore(String state, Supplier<LogPlacer> maker, int onTape) {
        sentence("An answer is by the object as it is now: " + state);
        changed("nothing", maker, onTape, x -> { });
        changed("step", maker, onTape, x -> x.step(0, 1, 0));
        changed("step to node 3", maker, onTape, x -> x.step(0, 3, 0));
        changed("counted", maker, onTape, x -> x.counted(0, 1000000));
        changed("line on", maker, onTape, x -> x.line(2, true));
        changed("line off", maker, onTape, x -> x.line(0, false));
        changed("fault on", maker, onTape, x -> x.fault(2, true));
        changed("fault off", maker, onTape, x -> x.fault(1, false));
        changed("feed", maker, onTape, x -> feedBytes(x, 0));
        changed("read", maker, onTape, x -> x.read(1, true));
        changed("flow", maker, onTape, x -> x.flow(3));
        changed("flow with steps", maker, onTape, AskedBeforeTest::otherFlow);
    }

    private static void otherFlow(LogPlacer x) {
        x.flow(3);
        x.step(1, 2, 0);
        x.step(0, 2, 9);
        x.step(0, 1, 0);
        x.step(0, 1, 0);
        x.line(1, true);
        x.fault(1, true);
    }

    private static void changed(String what, Supplier<LogPlacer> maker, int onTape, Consumer<LogPlacer> change) {
        LogPlacer asked = maker.get();
        String first = Answers.butTheTape(asked);
        due("all answers, asked twice", Answers.butTheTape(asked), first);
        asked = maker.get();
        Answers.butTheTape(asked);
        change.accept(asked);
        LogPlacer fresh = maker.get();
        change.accept(fresh);
        due("all answers behind " + what, Answers.of(asked, onTape), Answers.of(fresh, onTape));
    }
}
