/** Promises 20 to 30 and the terms of what is asked, at their bounds. */
public final class AskEdgeTests {
    private AskEdgeTests() { }

    static void unknown() {
        Check.term("what is asked of functions. UNKNOWN.");
        span("runs", (x, n) -> x.runs(n));
        span("alike, one", (x, n) -> x.alike(n, 0));
        span("alike, other", (x, n) -> x.alike(0, n));
        span("depends", (x, n) -> x.depends(n, 0));
        span("ways", (x, n) -> x.ways(n));
        span("least", (x, n) -> x.least(n));
        span("best", (x, n) -> x.best(n));
        span("weigh", (x, n) -> x.weigh(n));
        for (Edge.Maker maker : new Edge.Maker[] {DiagramOdds::new, Edge::tenTruths}) {
            Check.due("runs, without functions", maker.make().runs(0), Edge.UNKNOWN);
            Check.due("alike, without functions", maker.make().alike(0, 0), Edge.UNKNOWN);
            Check.due("depends, without functions", maker.make().depends(0, 0), Edge.UNKNOWN);
            Check.due("size, without functions", maker.make().size(0), Edge.UNKNOWN);
            Check.due("best, without functions", maker.make().best(0), Edge.UNKNOWN);
        }
    }

    /** The first and the last of five functions, and of forty. */
    private static void span(String what, Edge.Call call) {
        Edge.span(what, Edge::mixed, call, 0, 4, Edge.UNKNOWN);
        Edge.span(what + " of forty", Edge::mixedFull, call, 0, 39, Edge.UNKNOWN);
    }

    static void runs() {
        Check.promise(20, "For how many runs (of all variables) a function is so.");
        DiagramOdds x = Edge.tenTruths();
        Check.due("all", x.runs(x.many(0, 0)), 1024);
        Check.due("none", x.runs(x.many(0, 1)), 0);
        Check.due("the last alone", x.runs(x.many(1023, 10)), 1);
        Check.due("the first alone", x.runs(x.not(x.many(1023, 1))), 1);
        for (int v = 0; v < 10; v++) x.weight(v, 1, 0);
        x.rule(0, 0, true);
        Check.due("also those without weight", x.runs(0), 1024);
        DiagramOdds y = Check.with(6, 6, 6, 4);
        Check.due("of 864", y.runs(y.is(3, 3)), 216);
        DiagramOdds z = Check.with(2);
        z.is(0, 1);
        Check.due("before another variable", z.runs(0), 1);
        z.choice(6);
        Check.due("also of those on which it does not depend", z.runs(0), 6);
    }

    static void alike() {
        Check.promise(21, "Whether two functions are so for the same runs: 1, 0.");
        DiagramOdds x = Edge.tenTruths();
        int all = x.many(0, 0), allButFirst = x.many(1023, 1), last = x.many(1023, 10), none = x.many(0, 1);
        Check.due("but for the first run", x.alike(all, allButFirst), 0);
        Check.due("but for the last run", x.alike(last, none), 0);
        Check.due("none and none", x.alike(none, x.not(all)), 1);
        Check.due("all and all", x.alike(x.not(none), all), 1);
        Check.due("one with itself", x.alike(last, last), 1);
        Check.due("what is not", x.alike(all, none), 0);
        x.seek();
        Check.due("in another order", x.alike(last, x.not(x.not(last))), 1);
        Check.due("in another order, but for a run", x.alike(last, none), 0);
    }

    static void depends() {
        Check.term("A function DEPENDS on a variable, if two runs that differ in that alone are not alike for it.");
        Check.promise(22, "Whether a function DEPENDS on a variable: 1, 0.");
        DiagramOdds x = Check.with(6, 2, 6);
        int all = x.many(0, 0), first = x.is(0, 0), last = x.is(2, 5), once = x.join(0, last, x.join(0, x.is(0, 5), x.is(1, 1)));
        for (int v = 0; v < 3; v++) {
            Check.due("always so", x.depends(all, v), 0);
            Check.due("never so", x.depends(x.not(all), v), 0);
            Check.due("so for one run", x.depends(once, v), 1);
            Check.due("so for all but one run", x.depends(x.not(once), v), 1);
        }
        Check.due("the first value alone", x.depends(first, 0), 1);
        Check.due("the last value alone", x.depends(last, 2), 1);
        Check.due("another variable", x.depends(first, 2) + x.depends(last, 0) + x.depends(last, 1), 0);
        Check.due("two that undo one another", x.depends(x.join(2, last, last), 2), 0);
        x.choice(2);
        Check.due("a later variable", x.depends(once, 3), 0);
        x.move(3, 0);
        Check.due("in another order", x.depends(once, 3) + 10 * x.depends(once, 0), 10);
        Edge.span("variable", Edge::mixed, (y, n) -> y.depends(0, n), 0, 3, Edge.UNKNOWN);
        Edge.span("variable of ten", Edge::tenTruthsAndOne, (y, n) -> y.depends(0, n), 0, 9, Edge.UNKNOWN);
    }

    static void size() {
        Check.term("THE SIZE of some functions is how many nodes there are in their diagrams together.");
        DiagramOdds x = Check.with(2, 2, 2);
        Check.due("of none", x.size(Edge.NONE), 0);
        x.many(0, 0);
        x.many(0, 1);
        Check.due("of leaves", x.size(Edge.NONE), 0);
        x.many(7, 2);
        Check.due("of one", x.size(Edge.NONE), 4);
        x.many(7, 2);
        Check.due("the same again", x.size(Edge.NONE), 4);
        x.is(2, 1);
        Check.due("a part of it", x.size(Edge.NONE), 4);
        x.not(2);
        Check.due("with no node of it", x.size(Edge.NONE), 8);
        Check.promise(23, "THE SIZE of a function; of all functions together for NONE.");
        int[] sizes = {0, 0, 4, 4, 1, 4};
        for (int f = 0; f < 6; f++) Check.due("function " + f, x.size(f), sizes[f]);
        Check.due("no function", x.size(6), Edge.UNKNOWN);
        Check.due("below NONE", x.size(-2), Edge.UNKNOWN);
        Check.due("far below NONE", x.size(Integer.MIN_VALUE), Edge.UNKNOWN);
        Check.due("far above", x.size(Integer.MAX_VALUE), Edge.UNKNOWN);
        Check.due("NONE, without variables", new DiagramOdds().size(-1), 0);
        Edge.span("of forty", Edge::mixedFull, (y, n) -> y.size(n), Edge.NONE, 39, Edge.UNKNOWN);
        DiagramOdds y = Check.with(6, 6, 6);
        int f = y.join(0, y.compare(0, 1, 0), y.compare(1, 2, 0));
        Check.due("six values", y.size(f), 13);
        Check.due("six values, together", y.size(Edge.NONE), 13 + 7 + 1);
    }

    static void ways() {
        Check.term("WAYS of a function: in how many ways one goes from its diagram's beginning, by a value at each node, to the leaf 1 (for the leaf itself 1, for the leaf 0 none).");
        Check.promise(24, "WAYS of a function.");
        DiagramOdds x = Edge.tenTruths();
        Check.due("the leaf 1", x.ways(x.many(0, 0)), 1);
        Check.due("the leaf 0", x.ways(x.many(0, 1)), 0);
        Check.due("one way", x.ways(x.many(1023, 10)), 1);
        Check.due("as many as variables", x.ways(x.many(1023, 1)), 10);
        Check.read(x, "a:#0^#1^#2^#3^#4^#5^#6^#7^#8^#9;");
        Check.due("as many as can be", x.ways(4), 512);
        DiagramOdds y = Check.with(6, 2);
        Check.due("by each value, to the same node", y.ways(y.not(y.is(0, 3))), 5);
        int f = y.join(1, y.is(0, 0), y.is(1, 1));
        Check.due("by values and a node", y.ways(f), 1 + 5);
        y.move(1, 0);
        Check.due("in another order", y.ways(f), 1 + 1);
    }

    static void least() {
        Check.term("THE LEAST of several runs is that with the least value of variable 0, of these of variable 1, and so on.");
        DiagramOdds x = Check.with(3, 3, 3);
        int f = x.join(1, x.join(0, x.is(0, 0), x.is(2, 2)), x.is(0, 1));
        x.least(f);
        Check.told("variable 0 first", x, 0, 0, 2);
        int g = x.join(0, f, x.join(2, x.is(1, 0), x.is(2, 2)));
        x.least(g);
        Check.told("then variable 1", x, 0, 1, 2);
        x.move(2, 0);
        x.least(g);
        Check.told("the order does not matter", x, 0, 1, 2);
        Check.promise(25, "THE LEAST run for which a function is so is told: 1; 0 there is none (what was told stays).");
        DiagramOdds y = Check.with(2, 6);
        int never = y.many(0, 1), always = y.many(0, 0), last = y.join(0, y.is(0, 1), y.is(1, 5));
        Check.due("none", y.least(never), 0);
        Check.due("nothing is told by that", y.told(0), Edge.STATE);
        Check.due("the last of all", y.least(last), 1);
        Check.told("the last of all", y, 1, 5);
        Check.due("none again", y.least(never), 0);
        Check.told("stays", y, 1, 5);
        Check.due("refused", y.least(40), Edge.UNKNOWN);
        Check.told("stays, refused", y, 1, 5);
        Check.due("of all", y.least(always), 1);
        Check.told("of all", y, 0, 0);
        y.rule(0, 0, true);
        y.weight(0, 1, 0);
        Check.due("without weight", y.least(always), 1);
        Check.due("without variables", leastOfNothing(), 1);
        DiagramOdds z = Edge.tenTruths();
        z.least(z.many(1023, 3));
        Check.told("of ten", z, 0, 0, 0, 0, 0, 0, 0, 1, 1, 1);
    }

    private static int leastOfNothing() {
        DiagramOdds x = new DiagramOdds();
        return x.least(x.many(0, 0));
    }

    static void best() {
        Check.term("THE BEST run of a function is, of those for which it is so and whose weight is above 0, that of the greatest weight, of several the least.");
        DiagramOdds x = Check.with(2, 3);
        int all = x.many(0, 0), never = x.many(0, 1), last = x.join(0, x.is(0, 1), x.is(1, 2));
        Check.due("all alike", x.best(all), 1);
        Check.told("the least of all", x, 0, 0);
        x.weight(1, 1, 2);
        x.weight(1, 2, 2);
        Check.due("two alike", x.best(all), 2);
        Check.told("the least of two", x, 0, 1);
        x.move(1, 0);
        x.weight(0, 1, 2);
        x.weight(1, 0, 2);
        Check.due("three alike", x.best(all), 4);
        Check.told("the least of three, in another order", x, 1, 0);
        Check.promise(26, "THE BEST run of a function is told: its weight; 0 there is none (what was told stays).");
        Check.due("the last run", x.best(last), 4);
        Check.told("the last run", x, 1, 2);
        Check.due("never so", x.best(never), 0);
        Check.told("stays, never so", x, 1, 2);
        x.weight(0, 1, 0);
        Check.due("no weight", x.best(last), 0);
        Check.told("stays, no weight", x, 1, 2);
        x.weight(0, 1, 1);
        x.rule(1, 2, true);
        Check.due("ruled out", x.best(last), 0);
        Check.told("stays, ruled out", x, 1, 2);
        Check.due("refused", x.best(-1), Edge.UNKNOWN);
        Check.told("stays, refused", x, 1, 2);
        Check.due("but what is not ruled out", x.best(all), 2);
        Check.told("but what is not ruled out", x, 0, 0);
        bestAtFirst();
    }

    static void bestAtFirst() {
        DiagramOdds y = Check.with(2);
        Check.due("none at first", y.best(y.many(0, 1)), 0);
        Check.due("nothing is told by that", y.told(0), Edge.STATE);
        DiagramOdds most = Edge.tenTruths();
        for (int v = 0; v < 10; v++) {
            most.weight(v, 0, 30);
            most.weight(v, 1, 30);
        }
        Check.due("the most of a run", most.best(most.many(1023, 10)), 590490000000000L);
        Check.told("the most of a run", most, 1, 1, 1, 1, 1, 1, 1, 1, 1, 1);
        most.weight(9, 0, 29);
        Check.due("the most but for a little", most.best(most.many(0, 0)), 590490000000000L);
        Check.told("the most but for a little", most, 0, 0, 0, 0, 0, 0, 0, 0, 0, 1);
        DiagramOdds none = new DiagramOdds();
        Check.due("without variables", none.best(none.many(0, 0)), 1);
    }

    static void told() {
        Check.promise(27, "A variable's value in the run that was told last.");
        DiagramOdds x = Check.with(2, 6);
        x.weight(1, 4, 2);
        int all = x.many(0, 0), five = x.is(1, 5);
        x.least(five);
        Check.told("by least", x, 0, 5);
        x.best(all);
        Check.told("by best", x, 0, 4);
        x.least(all);
        Check.told("by least, again", x, 0, 0);
        x.odds(five, all);
        x.enter(five);
        x.print(five);
        x.move(1, 0);
        x.seek();
        x.weight(1, 4, 0);
        x.not(five);
        Check.told("stays", x, 0, 0);
        Check.promise(27, "UNKNOWN, STATE (none was told, or the variable came later).");
        Edge.span("none was told, variable", Edge::mixed, (y, n) -> y.told(n) == Edge.STATE ? 0 : y.told(n), 0, 3, Edge.UNKNOWN);
        Check.due("none was told", Edge.mixed().told(0), Edge.STATE);
        Check.due("UNKNOWN before STATE", Edge.mixed().told(4), Edge.UNKNOWN);
        x.choice(3);
        Check.told("the older ones stay", x, 0, 0);
        Check.due("came later", x.told(2), Edge.STATE);
        Check.due("is not there", x.told(3), Edge.UNKNOWN);
        Check.due("is not there, below", x.told(-1), Edge.UNKNOWN);
        x.least(x.many(0, 1));
        Check.due("came later, and none was told since", x.told(2), Edge.STATE);
        x.least(x.is(2, 2));
        Check.told("told since", x, 0, 0, 2);
        DiagramOdds none = new DiagramOdds();
        none.least(none.many(0, 0));
        none.choice(2);
        Check.due("told before any variable", none.told(0), Edge.STATE);
    }

    static void weightOfRuns() {
        Check.term("The weight of a run is that of its values multiplied, or 0 if one of them is ruled out");
        DiagramOdds x = Check.with(2, 3, 2);
        int one = x.join(0, x.is(0, 1), x.join(0, x.is(1, 2), x.is(2, 1)));
        x.weight(0, 1, 30);
        x.weight(1, 2, 29);
        x.weight(2, 1, 28);
        Check.due("multiplied", x.best(one), 30 * 29 * 28);
        for (int v = 0; v < 3; v++) {
            x.rule(v, v == 1 ? 2 : 1, true);
            Check.due("one is ruled out", x.weigh(one), 0);
            x.rule(v, v == 1 ? 2 : 1, false);
            x.rule(v, 0, true);
            Check.due("another value is ruled out", x.weigh(one), 30 * 29 * 28);
            x.rule(v, 0, false);
        }
        x.weight(1, 2, 0);
        Check.due("one has no weight", x.weigh(one), 0);
        Check.term("that of a function is the sum over the runs for which it is so.");
        Check.promise(30, "The weight of a function.");
        x.weight(1, 2, 5);
        Check.due("all", x.weigh(x.many(0, 0)), 31 * 7 * 29);
        Check.due("none", x.weigh(x.many(0, 1)), 0);
        DiagramOdds most = Edge.tenTruths();
        for (int v = 0; v < 10; v++) for (int value = 0; value < 2; value++) most.weight(v, value, 30);
        Check.due("the most", most.weigh(most.many(0, 0)), 604661760000000000L);
        Check.due("all but one run", most.weigh(most.many(1023, 1)), 604661760000000000L - 590490000000000L);
        DiagramOdds none = new DiagramOdds();
        Check.due("without variables", none.weigh(none.many(0, 0)) * 10 + none.weigh(none.many(0, 1)), 10);
        none.choice(6);
        none.weight(0, 0, 30);
        Check.due("with a later variable", none.weigh(0), 35);
    }

    public static void main(String[] args) {
        unknown();
        runs();
        alike();
        depends();
        size();
        ways();
        least();
        best();
        told();
        weightOfRuns();
        Check.finish("what is asked, at its bounds");
    }
}
