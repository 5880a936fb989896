/** Promises 5 to 14 and the terms of functions, at their bounds. */
public final class FunctionEdgeTests {
    private FunctionEdgeTests() { }

    /** Each call that makes a function, on an object as mixed(). */
    static final String[] NAMES = {
        "is", "compare", "many", "join", "not", "choose", "condition", "quantify, some", "quantify, all", "substitute", "exchange"};
    static final Edge.Ask[] CALLS = {
        x -> x.is(3, 5), x -> x.compare(1, 3, 2), x -> x.many(5, 1), x -> x.join(5, 0, 1), x -> x.not(2), x -> x.choose(0, 1, 2),
        x -> x.condition(1, 3, 5), x -> x.quantify(1, 3, false), x -> x.quantify(1, 3, true), x -> x.substitute(2, 2, 0),
        x -> x.exchange(2, 0, 2)};

    static void fortyAtMost() {
        Check.term("functions, each the number of a new one. UNKNOWN, OUTSIDE, STATE, ROOM (40).");
        for (int i = 0; i < CALLS.length; i++) {
            DiagramOdds x = Edge.mixed();
            for (int number = 5; number < 40; number++) Check.due(NAMES[i], CALLS[i].of(x), number);
            Check.due(NAMES[i] + " and no room", CALLS[i].of(x), Edge.ROOM);
            Check.due(NAMES[i] + " and still no room", CALLS[i].of(x), Edge.ROOM);
            Check.due(NAMES[i] + " and the last of them", x.alike(39, 5), 1);
            Check.due(NAMES[i] + " and no more", x.runs(40), Edge.UNKNOWN);
        }
        Check.term("FUNCTIONS are numbered 0, 1, .. as they are made (40 at most)");
        DiagramOdds x = Edge.mixed();
        for (int number = 5; number < 40; number++) {
            Check.due("what is refused takes no number", x.is(0, 2), Edge.OUTSIDE);
            Check.due("nor what has a fault", Check.read(x, "@"), -1000);
            if (number % 2 == 0) Check.due("by a call", CALLS[number % CALLS.length].of(x), number);
            else Check.due("by a text", Check.read(x, "a" + number + ":#0;"), 1);
        }
        Check.due("what a text made has its number", Check.named(x, "a39"), 39);
        Check.due("no room", x.not(0), Edge.ROOM);
        Check.due("nor for a text", Check.read(x, "b:#0;"), -1000);
    }

    static void noneOrAll() {
        Check.term("each is so for some runs (perhaps none, or all).");
        DiagramOdds x = Edge.tenTruths();
        Check.due("all", x.runs(x.many(1023, 0)), 1024);
        Check.due("all but one", x.runs(x.many(1023, 1)), 1023);
        Check.due("one", x.runs(x.many(1023, 10)), 1);
        Check.due("none", x.runs(x.many(1023, 11)), 0);
        Check.due("not all", x.runs(x.not(0)), 0);
        Check.due("not none", x.runs(x.not(3)), 1024);
    }

    static void laterVariable() {
        Check.term("What a variable that comes later is does not matter to the functions before.");
        DiagramOdds x = Check.with(2);
        x.is(0, 1);
        x.many(0, 0);
        x.many(0, 1);
        Check.read(x, "a:!#0;");
        int runs = 2;
        for (int values : new int[] {6, 5, 4, 3}) {
            int later = x.choice(values);
            runs *= values;
            Check.due("runs", x.runs(0), runs / 2);
            Check.due("runs of always", x.runs(1), runs);
            Check.due("runs of never", x.runs(2), 0);
            Check.due("runs of a name's", x.runs(Check.named(x, "a")), runs / 2);
            for (int f = 0; f < 4; f++) Check.due("depends", x.depends(f, later), 0);
            Check.due("with its last value", x.alike(x.condition(0, later, values - 1), 0), 1);
            Check.due("nodes", Check.printed(x, 0), "2:0(0,1)");
        }
        Check.due("alike with a new one", x.alike(0, x.is(0, 1)), 1);
        DiagramOdds none = new DiagramOdds();
        none.many(0, 0);
        none.choice(6);
        Check.due("made before any variable", none.alike(0, none.many(0, 0)), 1);
    }

    static void is() {
        Check.promise(5, "So if a variable has a value.");
        DiagramOdds x = Check.with(2, 6);
        Check.due("the first value of the first", Check.row(x, x.is(0, 0), 2, 6), "111111000000");
        Check.due("the last value of the last", Check.row(x, x.is(1, 5), 2, 6), "000001000001");
        DiagramOdds most = Edge.tenTruths();
        Check.due("of ten", most.runs(most.is(9, 1)), 512);
        Check.promise(5, "OUTSIDE (the value).");
        Edge.span("value of two", Edge::mixed, (y, n) -> y.is(2, n), 0, 1, Edge.OUTSIDE);
        Edge.span("value of six", Edge::mixed, (y, n) -> y.is(3, n), 0, 5, Edge.OUTSIDE);
        Edge.span("variable", Edge::mixed, (y, n) -> y.is(n, 0), 0, 3, Edge.UNKNOWN);
        Edge.span("variable of ten", Edge::tenTruths, (y, n) -> y.is(n, 0), 0, 9, Edge.UNKNOWN);
        Check.due("UNKNOWN before OUTSIDE", Edge.mixed().is(4, 6), Edge.UNKNOWN);
        Check.due("OUTSIDE before ROOM", Edge.mixedFull().is(3, 6), Edge.OUTSIDE);
        Check.due("UNKNOWN before ROOM", Edge.mixedFull().is(4, 0), Edge.UNKNOWN);
    }

    static void compare() {
        Check.promise(6, "So if two variables, as numbers, are: how = 0 alike, 1 the first one is less, 2 the first one is less or alike.");
        DiagramOdds x = Check.with(2, 3);
        Check.due("alike", Check.row(x, x.compare(0, 1, 0), 2, 3), "100010");
        Check.due("less", Check.row(x, x.compare(0, 1, 1), 2, 3), "011001");
        Check.due("less or alike", Check.row(x, x.compare(0, 1, 2), 2, 3), "111011");
        Check.due("alike, turned", Check.row(x, x.compare(1, 0, 0), 2, 3), "100010");
        Check.due("less, turned", Check.row(x, x.compare(1, 0, 1), 2, 3), "000100");
        Check.due("less or alike, turned", Check.row(x, x.compare(1, 0, 2), 2, 3), "100110");
        for (int v = 0; v < 2; v++) {
            Check.due("alike with itself", x.runs(x.compare(v, v, 0)), 6);
            Check.due("less than itself", x.runs(x.compare(v, v, 1)), 0);
            Check.due("less than or alike with itself", x.runs(x.compare(v, v, 2)), 6);
        }
        Check.promise(6, "OUTSIDE.");
        Edge.span("how", Edge::mixed, (y, n) -> y.compare(0, 3, n), 0, 2, Edge.OUTSIDE);
        Edge.span("one", Edge::mixed, (y, n) -> y.compare(n, 1, 0), 0, 3, Edge.UNKNOWN);
        Edge.span("other", Edge::mixed, (y, n) -> y.compare(1, n, 0), 0, 3, Edge.UNKNOWN);
        Check.due("UNKNOWN before OUTSIDE, one", Edge.mixed().compare(4, 0, 3), Edge.UNKNOWN);
        Check.due("UNKNOWN before OUTSIDE, other", Edge.mixed().compare(0, -1, -1), Edge.UNKNOWN);
        Check.due("UNKNOWN before ROOM", Edge.mixedFull().compare(0, 4, 0), Edge.UNKNOWN);
        Check.due("OUTSIDE before ROOM", Edge.mixedFull().compare(0, 3, 3), Edge.OUTSIDE);
    }

    static void many() {
        Check.promise(7, "So if of the truths whose bits the mask has (1 is variable 0, 2 variable 1, ..) n at least are so.");
        DiagramOdds x = Edge.tenTruths();
        for (int bit = 0; bit < 10; bit++) Check.due("bit " + bit, x.alike(x.many(1 << bit, 1), x.is(bit, 1)), 1);
        int[] runs = {1024, 1023, 1013, 968, 848, 638, 386, 176, 56, 11, 1, 0};
        for (int n = 0; n <= 11; n++) Check.due("of ten, " + n, x.runs(x.many(1023, n)), runs[n]);
        Check.due("two of the first and the last", x.runs(x.many(513, 2)), 256);
        DiagramOdds y = Check.with(3, 2);
        Check.due("beside what is no truth", y.alike(y.many(2, 1), y.is(1, 1)), 1);
        manyRefused();
    }

    static void manyRefused() {
        Check.promise(7, "OUTSIDE (a bit of none, or of what is no truth; n may be any number).");
        Check.due("a bit of none", Edge.mixed().many(16, 1), Edge.OUTSIDE);
        Check.due("a bit of none beside truths", Edge.mixed().many(21, 1), Edge.OUTSIDE);
        Check.due("an eleventh of ten", Edge.tenTruths().many(1024, 1), Edge.OUTSIDE);
        Check.due("an eleventh beside ten", Edge.tenTruths().many(2047, 1), Edge.OUTSIDE);
        for (int bit = 10; bit < 32; bit++) Check.due("bit " + bit, Edge.tenTruths().many(1 << bit, 0), Edge.OUTSIDE);
        Check.due("all bits", Edge.tenTruths().many(-1, 0), Edge.OUTSIDE);
        Check.due("a bit, without variables", new DiagramOdds().many(1, 0), Edge.OUTSIDE);
        Check.due("no truth", Edge.mixed().many(2, 1), Edge.OUTSIDE);
        Check.due("no truth, the last one", Edge.mixed().many(8, 1), Edge.OUTSIDE);
        Check.due("no truth beside truths", Edge.mixed().many(13, 1), Edge.OUTSIDE);
        Check.due("no truth, even if none need be so", Edge.mixed().many(8, 0), Edge.OUTSIDE);
        Check.due("OUTSIDE before ROOM", Edge.mixedFull().many(2, 1), Edge.OUTSIDE);
        DiagramOdds x = Edge.mixed();
        int[] always = {Integer.MIN_VALUE, Integer.MIN_VALUE + 1, -1, 0}, never = {3, 32, Integer.MAX_VALUE - 1, Integer.MAX_VALUE};
        for (int n : always) Check.due("at least " + n, x.alike(x.many(5, n), 3), 1);
        for (int n : never) Check.due("at least " + n, x.alike(x.many(5, n), 4), 1);
        Check.due("of none, none", x.alike(x.many(0, 0), 3), 1);
        Check.due("of none, one", x.alike(x.many(0, 1), 4), 1);
        Check.due("of none, as few as can be", x.alike(x.many(0, Integer.MIN_VALUE), 3), 1);
        Check.due("of none, as many as can be", x.alike(x.many(0, Integer.MAX_VALUE), 4), 1);
    }

    static void join() {
        Check.promise(8, "Of two functions: op = 0 both, 1 one at least, 2 one alone, 3 the first one is not or the second one is, "
            + "4 both or none, 5 the first one, not the second one.");
        DiagramOdds x = Check.with(2, 2);
        x.is(0, 1);
        x.is(1, 1);
        x.many(0, 0);
        x.many(0, 1);
        String[] rows = {"0001", "0111", "0110", "1101", "1001", "0010"};
        int[] withAll = {2, 4, 2, 4, 2, 0}, withNone = {0, 2, 2, 2, 2, 2}, withItself = {2, 2, 0, 4, 4, 0};
        for (int op = 0; op < 6; op++) {
            Check.due("op " + op, Check.row(x, x.join(op, 0, 1), 2, 2), rows[op]);
            Check.due("with all, op " + op, x.runs(x.join(op, 0, 2)), withAll[op]);
            Check.due("with none, op " + op, x.runs(x.join(op, 0, 3)), withNone[op]);
            Check.due("with itself, op " + op, x.runs(x.join(op, 0, 0)), withItself[op]);
        }
        Check.promise(8, "OUTSIDE (op).");
        Edge.span("op", Edge::mixed, (y, n) -> y.join(n, 0, 1), 0, 5, Edge.OUTSIDE);
        Edge.span("one", Edge::mixed, (y, n) -> y.join(0, n, 1), 0, 4, Edge.UNKNOWN);
        Edge.span("other", Edge::mixed, (y, n) -> y.join(0, 1, n), 0, 4, Edge.UNKNOWN);
        Check.due("UNKNOWN before OUTSIDE, one", Edge.mixed().join(6, 5, 0), Edge.UNKNOWN);
        Check.due("UNKNOWN before OUTSIDE, other", Edge.mixed().join(-1, 0, -1), Edge.UNKNOWN);
        Check.due("UNKNOWN before ROOM", Edge.mixedFull().join(0, 40, 0), Edge.UNKNOWN);
        Check.due("OUTSIDE before ROOM", Edge.mixedFull().join(6, 0, 0), Edge.OUTSIDE);
    }

    static void not() {
        Check.promise(9, "So if a function is not.");
        DiagramOdds x = Edge.mixed();
        Check.due("of always", x.alike(x.not(3), 4), 1);
        Check.due("of never", x.alike(x.not(4), 3), 1);
        Check.due("twice", x.alike(x.not(x.not(1)), 1), 1);
        Edge.span("function", Edge::mixed, (y, n) -> y.not(n), 0, 4, Edge.UNKNOWN);
        Check.due("UNKNOWN before ROOM", Edge.mixedFull().not(40), Edge.UNKNOWN);
        DiagramOdds none = new DiagramOdds();
        none.many(0, 0);
        Check.due("of the one run", none.runs(none.not(0)), 0);
    }

    static void choose() {
        Check.promise(10, "The second one where the first one is so, elsewhere the third one.");
        DiagramOdds x = Edge.mixed();
        Check.due("where it is always", x.alike(x.choose(3, 0, 1), 0), 1);
        Check.due("where it is never", x.alike(x.choose(4, 0, 1), 1), 1);
        Check.due("always, elsewhere never", x.alike(x.choose(1, 3, 4), 1), 1);
        Check.due("never, elsewhere always", x.alike(x.choose(1, 4, 3), x.not(1)), 1);
        Check.due("all three the same", x.alike(x.choose(1, 1, 1), 1), 1);
        DiagramOdds z = Check.with(2, 2, 2);
        for (int v = 0; v < 3; v++) z.is(v, 1);
        Check.due("by another", Check.row(z, z.choose(1, 2, 0), 2, 2, 2), "00011101");
        Edge.span("one", Edge::mixed, (y, n) -> y.choose(n, 0, 1), 0, 4, Edge.UNKNOWN);
        Edge.span("yes", Edge::mixed, (y, n) -> y.choose(0, n, 1), 0, 4, Edge.UNKNOWN);
        Edge.span("no", Edge::mixed, (y, n) -> y.choose(0, 1, n), 0, 4, Edge.UNKNOWN);
        Check.due("UNKNOWN before ROOM", Edge.mixedFull().choose(0, 1, 40), Edge.UNKNOWN);
    }

    static void condition() {
        Check.promise(11, "A function as it is with a value of a variable.");
        DiagramOdds x = Check.with(3, 2);
        x.compare(0, 1, 2);
        Check.due("with the first value", Check.row(x, x.condition(0, 0, 0), 3, 2), "111111");
        Check.due("with the one between", Check.row(x, x.condition(0, 0, 1), 3, 2), "010101");
        Check.due("with the last value", Check.row(x, x.condition(0, 0, 2), 3, 2), "000000");
        Check.due("of the last variable", Check.row(x, x.condition(0, 1, 1), 3, 2), "111100");
        Check.due("it depends on it no more", x.depends(4, 1), 0);
        Check.due("where it did not", x.alike(x.condition(2, 0, 2), 2), 1);
        Check.promise(11, "OUTSIDE (the value).");
        Edge.span("value of two", Edge::mixed, (y, n) -> y.condition(0, 0, n), 0, 1, Edge.OUTSIDE);
        Edge.span("value of six", Edge::mixed, (y, n) -> y.condition(0, 3, n), 0, 5, Edge.OUTSIDE);
        Edge.span("function", Edge::mixed, (y, n) -> y.condition(n, 0, 0), 0, 4, Edge.UNKNOWN);
        Edge.span("variable", Edge::mixed, (y, n) -> y.condition(0, n, 0), 0, 3, Edge.UNKNOWN);
        Check.due("UNKNOWN before OUTSIDE, the function", Edge.mixed().condition(5, 0, 2), Edge.UNKNOWN);
        Check.due("UNKNOWN before OUTSIDE, the variable", Edge.mixed().condition(0, 4, -1), Edge.UNKNOWN);
        Check.due("UNKNOWN before ROOM", Edge.mixedFull().condition(40, 0, 0), Edge.UNKNOWN);
        Check.due("OUTSIDE before ROOM", Edge.mixedFull().condition(0, 0, 2), Edge.OUTSIDE);
    }

    static void quantify() {
        Check.promise(12, "So if a function is so for some value of a variable, or for all values.");
        DiagramOdds x = Check.with(2, 6);
        int always = x.many(0, 0), never = x.many(0, 1);
        for (int value : new int[] {0, 3, 5}) {
            int one = x.is(1, value), others = x.not(one);
            Check.due("some, of one value " + value, x.alike(x.quantify(one, 1, false), always), 1);
            Check.due("all, of one value " + value, x.alike(x.quantify(one, 1, true), never), 1);
            Check.due("all, but for the value " + value, x.alike(x.quantify(others, 1, true), never), 1);
            Check.due("where it does not depend, some", x.alike(x.quantify(one, 0, false), one), 1);
            Check.due("where it does not depend, all", x.alike(x.quantify(one, 0, true), one), 1);
        }
        for (boolean all : new boolean[] {true, false}) {
            Check.due("of always", x.alike(x.quantify(always, 1, all), always), 1);
            Check.due("of never", x.alike(x.quantify(never, 1, all), never), 1);
            Edge.span("function", Edge::mixed, (y, n) -> y.quantify(n, 3, all), 0, 4, Edge.UNKNOWN);
            Edge.span("variable", Edge::mixed, (y, n) -> y.quantify(0, n, all), 0, 3, Edge.UNKNOWN);
            Check.due("UNKNOWN before ROOM", Edge.mixedFull().quantify(0, 4, all), Edge.UNKNOWN);
        }
        DiagramOdds y = Check.with(2, 2);
        y.compare(0, 1, 1);
        Check.due("for some it is so, for others not", Check.row(y, y.quantify(0, 1, false), 2, 2), "1100");
    }

    /** The first and the last run of 1024, by the first and the last variable. */
    static void mostRuns() {
        DiagramOdds x = Edge.tenTruths();
        int last = x.many(1023, 10), notFirst = x.many(1023, 1), truth = x.is(4, 1);
        for (int v : new int[] {0, 9}) {
            Check.due("some, of the last run", x.runs(x.quantify(last, v, false)), 2);
            Check.due("all, of the last run", x.runs(x.quantify(last, v, true)), 0);
            Check.due("some, of all but the first", x.runs(x.quantify(notFirst, v, false)), 1024);
            Check.due("all, of all but the first", x.runs(x.quantify(notFirst, v, true)), 1022);
            Check.due("the last run with 1", x.runs(x.condition(last, v, 1)), 2);
            Check.due("the last run with 0", x.runs(x.condition(last, v, 0)), 0);
            Check.due("the last run with another truth", x.runs(x.substitute(last, v, truth)), 2);
        }
        Check.due("the last run, exchanged", x.alike(x.exchange(last, 0, 9), last), 1);
    }

    static void substitute() {
        Check.promise(13, "A function with another one in the place of a truth: so for a run, if the first one is so for that run "
            + "with the truth being 1 if the second one is so for that run, else 0.");
        DiagramOdds x = Edge.mixed();
        Check.due("always, in its place", x.alike(x.substitute(2, 0, 3), x.condition(2, 0, 1)), 1);
        Check.due("never, in its place", x.alike(x.substitute(2, 0, 4), x.condition(2, 0, 0)), 1);
        int truth = x.is(2, 1), not = x.is(2, 0);
        Check.due("itself, in its place", x.alike(x.substitute(2, 2, truth), 2), 1);
        Check.due("what it is not, in its place", x.alike(x.substitute(truth, 2, not), not), 1);
        Check.due("where it does not matter", x.alike(x.substitute(0, 0, 2), 0), 1);
        Check.due("of always", x.alike(x.substitute(3, 0, 2), 3), 1);
        Check.due("of never", x.alike(x.substitute(4, 0, 2), 4), 1);
        DiagramOdds z = Check.with(2, 3);
        z.is(0, 1);
        z.compare(0, 1, 1);
        Check.due("by what depends on it", Check.row(z, z.substitute(0, 0, 1), 2, 3), "011001");
        Check.promise(13, "STATE (the variable is no truth).");
        Check.due("of three values", Edge.mixed().substitute(0, 1, 0), Edge.STATE);
        Check.due("of six values", Edge.mixed().substitute(0, 3, 0), Edge.STATE);
        Check.due("even if it does not matter", Edge.mixed().substitute(3, 1, 3), Edge.STATE);
        Edge.span("function", Edge::mixed, (y, n) -> y.substitute(n, 2, 0), 0, 4, Edge.UNKNOWN);
        Edge.span("truth", Edge::tenTruthsAndOne, (y, n) -> y.substitute(0, n, 0), 0, 9, Edge.UNKNOWN);
        Edge.span("other", Edge::mixed, (y, n) -> y.substitute(0, 2, n), 0, 4, Edge.UNKNOWN);
        Check.due("UNKNOWN before STATE, the function", Edge.mixed().substitute(5, 1, 0), Edge.UNKNOWN);
        Check.due("UNKNOWN before STATE, the other", Edge.mixed().substitute(0, 1, -1), Edge.UNKNOWN);
        Check.due("UNKNOWN before ROOM", Edge.mixedFull().substitute(0, 4, 0), Edge.UNKNOWN);
        Check.due("STATE before ROOM", Edge.mixedFull().substitute(0, 1, 0), Edge.STATE);
    }

    static void exchange() {
        Check.promise(14, "A function with two variables exchanged: so for a run if it is so with the value of the one for the other one, "
            + "and the other way round.");
        DiagramOdds x = Edge.tenTruthsAndOne();
        Check.due("the first and the last", x.alike(x.exchange(x.is(0, 1), 0, 9), x.is(9, 1)), 1);
        Check.due("the last and the first", x.alike(x.exchange(x.is(9, 0), 9, 0), x.is(0, 0)), 1);
        Check.due("with itself", x.alike(x.exchange(0, 9, 9), 0), 1);
        Check.due("where it does not matter", x.alike(x.exchange(0, 1, 2), 0), 1);
        DiagramOdds z = Check.with(3, 2, 3);
        int f = z.join(0, z.compare(0, 2, 1), z.is(1, 1)), g = z.join(0, z.compare(2, 0, 1), z.is(1, 1));
        Check.due("both ways", z.alike(z.exchange(f, 0, 2), g), 1);
        Check.due("and back", z.alike(z.exchange(g, 0, 2), f), 1);
        Check.promise(14, "STATE (they have not as many values).");
        Check.due("two and three", Edge.mixed().exchange(0, 0, 1), Edge.STATE);
        Check.due("six and two", Edge.mixed().exchange(0, 3, 2), Edge.STATE);
        Check.due("five and six", exchanged(5, 6), Edge.STATE);
        Check.due("even if it does not matter", Edge.mixed().exchange(3, 0, 1), Edge.STATE);
        for (int values = 2; values <= 6; values++) Check.due("as many", exchanged(values, values), 1);
        Edge.span("function", Edge::mixed, (y, n) -> y.exchange(n, 0, 2), 0, 4, Edge.UNKNOWN);
        Edge.span("one", Edge::tenTruthsAndOne, (y, n) -> y.exchange(0, n, 5), 0, 9, Edge.UNKNOWN);
        Edge.span("other", Edge::tenTruthsAndOne, (y, n) -> y.exchange(0, 5, n), 0, 9, Edge.UNKNOWN);
        Check.due("UNKNOWN before STATE", Edge.mixed().exchange(5, 0, 1), Edge.UNKNOWN);
        Check.due("UNKNOWN before ROOM", Edge.mixedFull().exchange(0, 0, 4), Edge.UNKNOWN);
        Check.due("STATE before ROOM", Edge.mixedFull().exchange(0, 0, 1), Edge.STATE);
    }

    private static int exchanged(int one, int other) {
        DiagramOdds x = Check.with(one, other);
        x.is(0, 1);
        return x.exchange(0, 0, 1);
    }

    public static void main(String[] args) {
        fortyAtMost();
        noneOrAll();
        laterVariable();
        is();
        compare();
        many();
        join();
        not();
        choose();
        condition();
        quantify();
        mostRuns();
        substitute();
        exchange();
        Check.finish("functions at their bounds");
    }
}
