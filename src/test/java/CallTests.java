/** The number of calls: what comes as late as may be is answered as on a new object. */
public final class CallTests {
    private static final int MOST_CALLS = 512;
    /** What mixed() calls itself. */
    private static final int CALLS_OF_MIXED = 9;

    private CallTests() { }

    private static void last(String what, Edge.Ask call) {
        DiagramOdds x = Edge.mixed();
        for (int i = CALLS_OF_MIXED; i < MOST_CALLS - 1; i++) x.here();
        Check.due(what, Edge.answer(x, call), Edge.answer(Edge.mixed(), call));
    }

    static void lastCall() {
        Check.term("An object is used for at most 512 calls after it has been made; what later calls answer is free.");
        for (int i = 0; i < FunctionEdgeTests.CALLS.length; i++) last(FunctionEdgeTests.NAMES[i], FunctionEdgeTests.CALLS[i]);
        last("choice", x -> x.choice(2));
        last("weight", x -> x.weight(0, 0, 2));
        last("rule", x -> x.rule(0, 0, true));
        last("feed", x -> x.feed(0, 0, 0, 0, 0));
        last("end", x -> { x.end(0); return 0; });
        last("end, thrown", x -> { x.end(1); return 0; });
        last("read", x -> x.read());
        last("fault", x -> x.fault());
        last("named", x -> x.named());
        last("runs", x -> x.runs(1));
        last("alike", x -> x.alike(1, 1));
        last("depends", x -> x.depends(1, 3));
        last("size", x -> x.size(1));
        last("size of all", x -> x.size(-1));
        last("ways", x -> x.ways(1));
        last("least", x -> x.least(1));
        last("best", x -> x.best(1));
        last("told", x -> x.told(0));
        last("odds", x -> x.odds(1, 0));
        last("odds, thrown", x -> x.odds(1, 4));
        last("part", x -> x.part(true));
        last("weigh", x -> x.weigh(1));
        last("enter", x -> x.enter(1));
        last("down", x -> x.down(0));
        last("here", x -> x.here());
        last("print", x -> x.print(1));
        last("printed", x -> x.printed(0));
        last("place", x -> x.place(3));
        last("move", x -> x.move(3, 0));
        last("seek", x -> x.seek());
    }

    /** The same call as often as can be. */
    static void manyOfOne() {
        DiagramOdds x = Edge.mixed();
        for (int i = CALLS_OF_MIXED + 1; i < MOST_CALLS; i++) Check.due("print", x.print(1), 42);
        Check.due("the last byte of the last print", x.printed(41), ')');
        DiagramOdds y = Edge.mixed();
        int size = y.seek();
        for (int i = CALLS_OF_MIXED + 1; i < MOST_CALLS; i++) Check.due("seek", y.seek(), size);
        DiagramOdds z = Edge.mixed();
        for (int i = CALLS_OF_MIXED; i < MOST_CALLS; i++) Check.due("weight", z.weight(3, 5, (i + 1) % 31), i == CALLS_OF_MIXED ? 1 : i % 31);
        DiagramOdds full = Edge.mixedFull();
        for (int i = 44; i < MOST_CALLS; i++) Check.due("no room", full.not(0), Edge.ROOM);
        DiagramOdds tape = Check.with(2);
        for (int i = 1; i + 2 < MOST_CALLS; i += 3) {
            Check.due("feed", tape.feed(0, 0, 0, 0, 0), 20);
            tape.end(20);
            Check.due("read", tape.read(), -1000);
        }
    }

    public static void main(String[] args) {
        lastCall();
        manyOfOne();
        Check.finish("512 calls");
    }
}
