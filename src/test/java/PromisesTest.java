/** For each promise of the document: ordinary inputs, the edges it names, and wrong inputs. */
public final class PromisesTest extends Checks {
    public static void main(String[] args) {
        promise1NewObject();
        promise2Flow();
        promise3Step();
        promise4Counted();
        promise5Line();
        promise6Fault();
        promise7Ways();
        promise8Way();
        promise9Log();
        promise10Heaps();
        promise11Heap();
        promise12Apart();
        promise13Cheapest();
        promise13CheapestTies();
        promise14Price();
        promise15Useless();
        promise16Why();
        promise17Feed();
        promise18Read();
        promise19Allowed();
        promise20Found();
        promise21Look();
        promise22Count();
        refusedCallsChangeNothing();
        finish("PromisesTest");
    }

    private static void promise1NewObject() {
        LogPlacer x = new LogPlacer();
        due("1 nodes", x.count(0), 2);
        for (int what = 1; what <= 5; what++) {
            due("1 count " + what, x.count(what), 0);
        }
        due("1 allowed: nothing was read", x.allowed(0), -1);
        due("1 step 0-1", x.step(0, 1, 0), 0);
        due("1 allowed with a way: nothing was read", x.allowed(0), -1);
        due("1 found with a way: nothing was read", x.found(1), -1);
    }

    private static void promise2Flow() {
        LogPlacer x = small();
        lines(x, 0);
        x.fault(2, true);
        feedBytes(x, 0, 0, 0, 0);
        x.read(0, true);
        feedBytes(x, 0, 0, 0, 0);
        due("2 flow 1", x.flow(1), false);
        due("2 flow 13", x.flow(13), false);
        due("2 flow least", x.flow(LEAST), false);
        due("2 flow most", x.flow(MOST), false);
        due("2 refused: steps stay", x.count(1), 6);
        due("2 refused: log stays", x.allowed(0), 0);
        due("2 flow 12", x.flow(12), true);
        due("2 nodes", x.count(0), 12);
        due("2 steps", x.count(1), 0);
        due("2 lines", x.count(2), 0);
        due("2 faults", x.count(3), 0);
        due("2 the tape stays", x.count(5), 20);
        due("2 flow 2", x.flow(2), true);
        due("2 step in the new flow", x.step(0, 1, 0), 0);
        due("2 ways of the new flow", x.ways(), 1);
        due("2 no line on the new step", x.look(0, 3), 0);
        due("2 the log is gone", x.allowed(0), -1);
        due("2 the log is gone for found", x.found(0), -1);
    }

    private static void promise3Step() {
        LogPlacer x = new LogPlacer();
        x.flow(12);
        due("3 step 0-11", x.step(0, 11, 0), 0);
        due("3 alike", x.step(0, 11, 1000000), 1);
        due("3 step 10-11", x.step(10, 11, 7), 2);
        due("3 no node 12", x.step(0, 12, 0), -1);
        due("3 no node -1", x.step(-1, 3, 0), -1);
        due("3 far nodes", x.step(LEAST, MOST, 0), -1);
        due("3 same node", x.step(4, 4, 0), -1);
        due("3 back", x.step(4, 3, 0), -1);
        due("3 counted -1", x.step(0, 1, -1), -1);
        due("3 counted 1000001", x.step(0, 1, 1000001), -1);
        due("3 refused ones are not there", x.count(1), 3);
        for (int e = 3; e < 16; e++) {
            due("3 number", x.step(0, 1, 0), e);
        }
        due("3 a seventeenth", x.step(0, 1, 0), -1);
        due("3 sixteen", x.count(1), 16);
        due("3 the last", x.look(15, 1), 1);
    }

    private static void promise4Counted() {
        LogPlacer x = small();
        due("4 anew", x.counted(5, 1000000), true);
        due("4 is so", x.look(5, 2), 1000000);
        due("4 like before", x.counted(5, 1000000), true);
        due("4 zero", x.counted(5, 0), true);
        due("4 price", x.price(32), 1);
        due("4 too high", x.counted(5, 1000001), false);
        due("4 too low", x.counted(5, -1), false);
        due("4 no step 6", x.counted(6, 0), false);
        due("4 no step -1", x.counted(-1, 0), false);
        due("4 no far step", x.counted(LEAST, 0), false);
        due("4 stays", x.look(5, 2), 0);
        due("4 others stay", x.look(4, 2), 4);
    }

    private static void promise5Line() {
        LogPlacer x = small();
        due("5 on", x.line(5, true), true);
        due("5 on again", x.line(5, true), false);
        due("5 stands", x.look(5, 3), 1);
        due("5 off where none is", x.line(4, false), false);
        due("5 off", x.line(5, false), true);
        due("5 off again", x.line(5, false), false);
        due("5 stands no more", x.look(5, 3), 0);
        due("5 no step 6", x.line(6, true), false);
        due("5 no step 6, off", x.line(6, false), false);
        due("5 no step -1", x.line(-1, true), false);
        due("5 no step 32", x.line(32, true), false);
        due("5 no far step", x.line(LEAST, false), false);
        due("5 none", x.count(2), 0);
    }

    private static void promise6Fault() {
        LogPlacer x = small();
        due("6 first node", x.fault(0, true), true);
        due("6 last node", x.fault(3, true), true);
        due("6 again", x.fault(3, true), false);
        due("6 not there", x.fault(1, false), false);
        due("6 two", x.count(3), 2);
        due("6 off", x.fault(3, false), true);
        due("6 off again", x.fault(3, false), false);
        due("6 no node 4", x.fault(4, true), false);
        due("6 no node -1", x.fault(-1, true), false);
        due("6 no node 32", x.fault(32, false), false);
        due("6 no far node", x.fault(MOST, true), false);
        due("6 one", x.count(3), 1);
    }

    private static void promise7Ways() {
        due("7 new", new LogPlacer().ways(), 0);
        due("7 small", small().ways(), 5);
        due("7 200", row(5, 5, 4, 2).ways(), 200);
        due("7 200", row(2, 2, 2, 5, 5).ways(), 200);
        due("7 204", withTooMany().ways(), -2);
        due("7 256", row(4, 4, 4, 4).ways(), -2);
        due("7 dead ends are no ways", row(4, 4, 4, 4, 0).ways(), 0);
        due("7 the longest", row(1, 1, 1, 1, 1, 1, 1, 1, 1, 1, 1).ways(), 1);
        LogPlacer x = row(4, 5, 5);
        due("7 100", x.ways(), 100);
        x.step(0, 3, 0);
        due("7 101 after one step more", x.ways(), 101);
        x.step(2, 3, 0);
        due("7 121 after another", x.ways(), 121);
        LogPlacer y = row(4, 4, 4, 3);
        due("7 192", y.ways(), 192);
        y.step(3, 4, 0);
        due("7 256 after one step more", y.ways(), -2);
        y.flow(2);
        due("7 none in a new flow", y.ways(), 0);
    }

    private static void promise8Way() {
        LogPlacer x = small();
        int[][] ways = {{0, 2}, {0, 3, 4}, {0, 3, 5}, {1, 4}, {1, 5}};
        for (int i = 0; i < ways.length; i++) {
            for (int k = 0; k < ways[i].length; k++) {
                due("8 way " + i + " step " + k, x.way(i, k), ways[i][k]);
            }
            due("8 behind way " + i, x.way(i, ways[i].length), -1);
        }
        due("8 no way 5", x.way(5, 0), -1);
        due("8 no way -1", x.way(-1, 0), -1);
        due("8 no step -1", x.way(0, -1), -1);
        due("8 far", x.way(LEAST, LEAST), -1);
        due("8 far step", x.way(0, LEAST), -1);
        due("8 far step", x.way(0, MOST), -1);
        due("8 too many", withTooMany().way(0, 0), -1);
        LogPlacer late = new LogPlacer();
        late.flow(3);
        late.step(1, 2, 0);
        late.step(0, 2, 0);
        late.step(0, 1, 0);
        due("8 the lower step first", late.way(0, 0), 1);
        due("8 in the way's order", late.way(1, 0), 2);
        due("8 in the way's order", late.way(1, 1), 0);
    }

    private static void promise9Log() {
        LogPlacer x = small();
        due("9 no lines", x.log(0, 0), -1);
        lines(x, 0, 4);
        due("9 log", x.log(1, 0), 0);
        due("9 log", x.log(1, 1), 4);
        due("9 behind", x.log(1, 2), -1);
        due("9 later line only", x.log(3, 0), 4);
        due("9 empty", x.log(4, 0), -1);
        due("9 no way", x.log(5, 0), -1);
        due("9 no way", x.log(-1, 0), -1);
        due("9 no such", x.log(1, -1), -1);
        due("9 far", x.log(1, LEAST), -1);
        LogPlacer late = new LogPlacer();
        late.flow(3);
        late.step(1, 2, 0);
        late.step(0, 1, 0);
        lines(late, 0, 1);
        due("9 in the way's order", late.log(0, 0), 1);
        due("9 in the way's order", late.log(0, 1), 0);
        LogPlacer many = withTooMany();
        lines(many, 0);
        due("9 too many", many.log(0, 0), -1);
    }

    private static void promise10Heaps() {
        due("10 no ways", new LogPlacer().heaps(), 0);
        LogPlacer x = small();
        due("10 no lines", x.heaps(), 1);
        lines(x, 0);
        due("10 one line", x.heaps(), 2);
        lines(x, 5);
        due("10 two lines", x.heaps(), 4);
        lines(x, 2);
        due("10 three lines", x.heaps(), 5);
        due("10 too many", withTooMany().heaps(), -2);
    }

    private static void promise11Heap() {
        LogPlacer x = small();
        due("11 no lines", x.heap(4), 0);
        lines(x, 3);
        int[] firsts = {0, 1, 1, 0, 0};
        for (int i = 0; i < firsts.length; i++) {
            due("11 heap of " + i, x.heap(i), firsts[i]);
        }
        due("11 no way 5", x.heap(5), -1);
        due("11 no way -1", x.heap(-1), -1);
        due("11 far", x.heap(MOST), -1);
        due("11 too many", withTooMany().heap(0), -1);
    }

    /** Whether NONE or -2 comes first the document does not say. */
    private static void refusedOrTooMany(String what, int got) {
        due(what, got == NONE || got == TOO_MANY, true);
    }

    private static void promise12Apart() {
        LogPlacer x = small();
        due("12 no faults", x.apart(1), 1);
        due("12 no lines", x.apart(0), 0);
        x.fault(0, true);
        x.fault(3, true);
        due("12 faults that all ways have", x.apart(1), 1);
        x.fault(1, true);
        due("12 a fault that some have", x.apart(1), 0);
        lines(x, 1);
        due("12 told by the other side", x.apart(1), 1);
        due("12 not all ways", x.apart(0), 0);
        lines(x, 2, 5);
        due("12 all ways", x.apart(0), 1);
        due("12 no such", x.apart(2), -1);
        due("12 no such", x.apart(-1), -1);
        due("12 no ways", new LogPlacer().apart(0), 1);
        due("12 too many", withTooMany().apart(0), -2);
        due("12 too many", withTooMany().apart(1), -2);
        refusedOrTooMany("12 no such, too many", withTooMany().apart(2));
    }

    private static void promise13Cheapest() {
        LogPlacer x = small();
        due("13 all ways", x.cheapest(0, false), 42);
        due("13 no faults", x.cheapest(1, false), 0);
        x.fault(1, true);
        due("13 fault at 1", x.cheapest(1, false), 2);
        x.fault(1, false);
        x.fault(2, true);
        due("13 fault at 2", x.cheapest(1, false), 4);
        lines(x, 0);
        due("13 beside, all ways", x.cheapest(0, true), 41);
        due("13 not beside", x.cheapest(0, false), 42);
        due("13 beside, faults", x.cheapest(1, true), 9);
        x.counted(3, 1000000);
        due("13 dearer step", x.cheapest(0, false), 38);
        due("13 dearer step, beside", x.cheapest(0, true), 37);
        due("13 no such", x.cheapest(2, true), -1);
        due("13 no such", x.cheapest(-1, false), -1);
        due("13 too many", withTooMany().cheapest(0, false), -2);
        due("13 too many", withTooMany().cheapest(1, true), -2);
        refusedOrTooMany("13 no such, too many", withTooMany().cheapest(2, true));
        LogPlacer off = new LogPlacer();
        off.flow(3);
        off.step(0, 1, 0);
        off.step(0, 2, 9);
        lines(off, 0);
        due("13 beside a line on no way", off.cheapest(0, true), 1);
    }

    private static void promise13CheapestTies() {
        LogPlacer lowest = row(2, 2);
        due("13 of like ones the lowest steps", lowest.cheapest(0, false), 5);
        LogPlacer fewest = new LogPlacer();
        fewest.flow(4);
        fewest.step(0, 1, 0);
        fewest.step(1, 2, 0);
        fewest.step(0, 1, 1);
        fewest.step(1, 2, 9);
        fewest.step(2, 3, 0);
        fewest.step(0, 3, 9);
        due("13 all ways of this one", fewest.cheapest(0, false), 19);
        LogPlacer dear = new LogPlacer();
        dear.flow(3);
        dear.step(0, 1, 0);
        dear.step(0, 1, 0);
        dear.step(1, 2, 1);
        dear.step(0, 2, 9);
        dear.fault(1, true);
        due("13 one step rather than two of like price", dear.cheapest(1, false), 4);
        dear.counted(2, 2);
        due("13 two steps if cheaper", dear.cheapest(1, false), 3);
        dear.counted(2, 1000000);
        dear.counted(0, 1000000);
        dear.counted(1, 1000000);
        due("13 the other side", dear.cheapest(1, false), 8);
    }

    private static void promise14Price() {
        LogPlacer x = small();
        due("14 none", x.price(0), 0);
        due("14 step 5", x.price(32), 1);
        due("14 all", x.price(63), 23);
        due("14 one too many", x.price(64), -1);
        due("14 one too many beside", x.price(65), -1);
        due("14 least", x.price(LEAST), -1);
        due("14 minus one", x.price(-1), -1);
        LogPlacer full = new LogPlacer();
        for (int e = 0; e < 16; e++) {
            full.step(0, 1, 1000000);
        }
        due("14 dearest", full.price(65535), 16000016);
        due("14 no step 16", full.price(65536), -1);
        due("14 any number of ways", withTooMany().price(3), 2);
    }

    private static void promise15Useless() {
        LogPlacer x = small();
        due("15 no lines", x.useless(0), -1);
        lines(x, 0, 2);
        due("15 none", x.useless(0), -1);
        lines(x, 1);
        due("15 first", x.useless(0), 0);
        due("15 second", x.useless(1), 1);
        due("15 no third", x.useless(2), -1);
        due("15 no -1", x.useless(-1), -1);
        due("15 far", x.useless(LEAST), -1);
        LogPlacer alone = new LogPlacer();
        alone.step(0, 1, 0);
        lines(alone, 0);
        due("15 on the only way", alone.useless(0), 0);
        LogPlacer off = new LogPlacer();
        off.flow(3);
        off.step(0, 1, 0);
        lines(off, 0);
        due("15 on no way", off.useless(0), 0);
        LogPlacer many = withTooMany();
        lines(many, 15);
        due("15 too many", many.useless(0), -1);
    }

    private static void promise16Why() {
        LogPlacer x = small();
        lines(x, 0, 2);
        due("16 first", x.why(0, 0), 1);
        due("16 other", x.why(0, 1), 3);
        due("16 first", x.why(2, 0), 0);
        due("16 other", x.why(2, 1), 1);
        due("16 no such", x.why(2, 2), -1);
        due("16 no such", x.why(2, -1), -1);
        due("16 no line", x.why(1, 0), -1);
        due("16 no step 6", x.why(6, 0), -1);
        due("16 no step -1", x.why(-1, 1), -1);
        due("16 no step 32", x.why(32, 0), -1);
        lines(x, 1);
        due("16 useless", x.why(0, 0), -1);
        due("16 useless", x.why(1, 1), -1);
        due("16 still needed", x.why(2, 1), 1);
        LogPlacer full = row(5, 5, 4, 2);
        lines(full, 0, 1, 2, 3, 4, 15);
        due("16 last pair of 200 ways", full.why(15, 0), 0);
        due("16 last pair of 200 ways", full.why(15, 1), 1);
        LogPlacer many = withTooMany();
        lines(many, 0);
        due("16 too many", many.why(0, 0), -1);
    }

    private static void promise17Feed() {
        LogPlacer x = row(2, 2, 2, 2);
        due("17 twenty", x.feed(0x00020406, -1, 0, MOST, LEAST), 20);
        due("17 forty", x.feed(1, 2, 3, 4, 5), 40);
        due("17 no more", x.feed(0, 0, 0, 0, 0), -1);
        due("17 stays forty", x.count(5), 40);
        lines(x, 0, 1, 2, 3, 4, 5, 6, 7);
        due("17 the highest byte first", x.read(4, false), 1);
        due("17 that way", x.allowed(0), 0);
        x = allLines(longest());
        due("17 over three ints", x.feed(0x00010203, 0x04050607, 0x08090A00, 0, 0), 20);
        due("17 eleven steps", x.read(11, false), 1);
        due("17 behind what is there", fedTwice().read(8, false), 1);
    }

    private static LogPlacer fedTwice() {
        LogPlacer x = row(1, 1, 1, 1, 1, 1, 1, 1);
        lines(x, 0, 1, 2, 3, 4, 5, 6, 7);
        x.feed(0x00010203, 0x04050607, 0, 0, 0);
        x.feed(-1, -1, -1, -1, -1);
        return x;
    }

    private static void promise18Read() {
        LogPlacer x = small();
        lines(x, 0, 2, 4);
        due("18 empty tape, empty log", x.read(0, false), 1);
        due("18 empty torn log: all", x.read(0, true), 5);
        due("18 it has not so many", x.read(1, true), -1);
        feedBytes(x, 0, 4, 9, 9);
        due("18 17", x.read(17, true), -1);
        due("18 -1", x.read(-1, true), -1);
        due("18 least", x.read(LEAST, true), -1);
        due("18 most", x.read(MOST, true), -1);
        due("18 the tape stays", x.count(5), 20);
        due("18 the log stays", x.allowed(4), 4);
        due("18 whole", x.read(2, false), 1);
        due("18 the tape is empty", x.count(5), 0);
        due("18 which", x.allowed(0), 1);
        feedBytes(x, 0, 4, 0, 0);
        due("18 torn", x.read(1, true), 3);
        feedBytes(x, 4, 0, 0, 0);
        due("18 against the order", x.read(2, true), 0);
        feedBytes(x, 0, 0, 0, 0);
        due("18 twice the same", x.read(2, true), 0);
        feedBytes(x, 1, 0, 0, 0);
        due("18 a step without a line", x.read(1, true), 0);
        feedBytes(x, 16, 0, 0, 0);
        due("18 no step", x.read(1, true), 0);
        feedBytes(x, 255, 0, 0, 0);
        due("18 no step", x.read(1, false), 0);
        feedBytes(x, 0, 4, 0, 0);
        due("18 longer than a way", x.read(16, false), 0);
        feedBytes(x, 4, 0, 0, 0);
        due("18 a torn one may not leave out a line ahead", x.read(1, true), 1);
        due("18 which", x.allowed(0), 3);
        LogPlacer many = withTooMany();
        feedBytes(many, 0, 0, 0, 0);
        due("18 too many, no such number", many.read(17, true), -1);
        due("18 too many, the tape stays", many.count(5), 20);
        due("18 too many", many.read(3, true), -2);
        due("18 too many, it is read", many.count(5), 0);
    }

    private static void promise19Allowed() {
        LogPlacer x = small();
        due("19 none was read", x.allowed(0), -1);
        lines(x, 0, 3);
        feedBytes(x, 0, 3, 0, 0);
        x.read(2, false);
        due("19 first", x.allowed(0), 1);
        due("19 second", x.allowed(1), 2);
        due("19 no third", x.allowed(2), -1);
        due("19 no -1", x.allowed(-1), -1);
        due("19 far", x.allowed(LEAST), -1);
        lines(x, 4);
        due("19 by lines as they are now", x.allowed(0), 2);
        due("19 by lines as they are now", x.allowed(1), -1);
        x.line(0, false);
        due("19 none any more", x.allowed(0), -1);
        LogPlacer later = new LogPlacer();
        later.step(0, 1, 0);
        feedBytes(later, 1, 0, 0, 0);
        due("19 no such step yet", later.read(1, false), 0);
        later.step(0, 1, 0);
        lines(later, 1);
        due("19 a step that came later", later.allowed(0), 1);
        LogPlacer many = withTooMany();
        many.read(0, true);
        due("19 too many", many.allowed(0), -1);
    }

    private static void promise20Found() {
        LogPlacer x = small();
        due("20 none was read", x.found(1), -1);
        lines(x, 0);
        x.fault(0, true);
        x.fault(1, true);
        x.fault(2, true);
        feedBytes(x, 0, 0, 0, 0);
        x.read(1, false);
        due("20 sure steps", x.found(0), 1);
        due("20 maybe steps", x.found(1), 61);
        due("20 sure faults", x.found(2), 3);
        due("20 maybe faults", x.found(3), 7);
        due("20 no such", x.found(4), -1);
        due("20 no such", x.found(-1), -1);
        x.fault(3, true);
        x.fault(0, false);
        due("20 the last node, too", x.found(2), 10);
        x.line(0, false);
        due("20 it allows none", x.found(1), -1);
        LogPlacer many = withTooMany();
        many.read(0, true);
        due("20 too many", many.found(1), -1);
    }

    private static void promise21Look() {
        LogPlacer x = small();
        lines(x, 3);
        due("21 from", x.look(3, 0), 1);
        due("21 to", x.look(3, 1), 2);
        due("21 counted", x.look(0, 2), 5);
        due("21 line", x.look(3, 3), 1);
        due("21 no line", x.look(0, 3), 0);
        due("21 no such", x.look(0, 4), -1);
        due("21 no such", x.look(0, -1), -1);
        due("21 no step 6", x.look(6, 0), -1);
        due("21 no step -1", x.look(-1, 0), -1);
        due("21 far", x.look(MOST, LEAST), -1);
    }

    private static void promise22Count() {
        LogPlacer x = small();
        lines(x, 0, 5);
        x.fault(0, true);
        x.fault(2, true);
        x.fault(3, true);
        feedBytes(x, 0, 0, 0, 0);
        long[] answers = {4, 6, 2, 3, 7, 20};
        for (int what = 0; what < answers.length; what++) {
            due("22 count " + what, x.count(what), answers[what]);
        }
        due("22 no such", x.count(6), -1);
        due("22 no such", x.count(-1), -1);
        due("22 far", x.count(LEAST), -1);
    }

    private static void refusedCallsChangeNothing() {
        LogPlacer x = small();
        lines(x, 0);
        x.fault(2, true);
        x.read(0, true);
        x.flow(0);
        x.step(3, 3, 0);
        x.counted(0, -1);
        x.line(0, true);
        x.fault(2, true);
        x.read(1, false);
        due("refused: nodes", x.count(0), 4);
        due("refused: steps", x.count(1), 6);
        due("refused: price", x.count(4), 6);
        due("refused: faults", x.count(3), 1);
        due("refused: log", x.allowed(4), 4);
        due("refused: ways", x.ways(), 5);
    }
}
