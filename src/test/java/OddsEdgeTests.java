/** Promises 28 and 29, at their bounds. */
public final class OddsEdgeTests {
    private OddsEdgeTests() { }

    private static void odds(String what, DiagramOdds x, int function, int given, String due) {
        Check.due(what, Edge.answer(x, y -> y.odds(function, given)) + " " + x.part(false) + "/" + x.part(true), due);
    }

    static void lowestTerms() {
        Check.term("The ODDS of a function, given another one, are the weight of both together, over that of the other one, in lowest terms.");
        DiagramOdds x = Check.with(2, 6);
        int truth = x.is(0, 1), low = x.is(1, 0), some = x.join(1, truth, low), all = x.many(0, 0), never = x.many(0, 1);
        odds("seven of twelve", x, some, Edge.NONE, "1 7/12");
        odds("six of seven", x, truth, some, "1 6/7");
        odds("seven of seven", x, some, some, "1 1/1");
        odds("what is given is a part", x, some, truth, "1 1/1");
        odds("both, not the first alone", x, truth, low, "0 1/2");
        odds("none of twelve", x, never, all, "-1 0/1");
        odds("none of seven", x, never, some, "-1 0/1");
        odds("all of twelve", x, all, Edge.NONE, "1 1/1");
        x.weight(0, 0, 30);
        x.weight(0, 1, 30);
        odds("common factors", x, low, Edge.NONE, "-1 1/6");
        x.weight(0, 1, 0);
        odds("no weight", x, truth, Edge.NONE, "-1 0/1");
        DiagramOdds most = Edge.tenTruths();
        for (int v = 0; v < 10; v++) for (int value = 0; value < 2; value++) most.weight(v, value, 30);
        odds("the most", most, most.many(1023, 1), Edge.NONE, "1 1023/1024");
        odds("the most, the least of it", most, most.many(1023, 10), Edge.NONE, "-1 1/1024");
        for (int v = 0; v < 10; v++) most.weight(v, 0, 29);
        odds("nothing in common", most, 1, Edge.NONE, "-1 590490000000000/511116753300641401");
        odds("all but that", most, most.not(1), Edge.NONE, "1 510526263300641401/511116753300641401");
    }

    static void half() {
        Check.promise(28, "The ODDS of a function, given another one (NONE: given nothing), are told: -1, 0, 1: whether they are below, just, or above a half.");
        DiagramOdds x = Edge.tenTruths();
        int half = x.is(0, 1), one = x.many(1023, 10), above = x.join(1, half, x.not(x.many(1023, 1))), below = x.join(5, half, one);
        odds("just", x, half, Edge.NONE, "0 1/2");
        odds("just, but not so", x, x.not(half), Edge.NONE, "0 1/2");
        odds("a run above", x, above, Edge.NONE, "1 513/1024");
        odds("a run below", x, below, Edge.NONE, "-1 511/1024");
        odds("given what is always so", x, half, x.many(0, 0), "0 1/2");
        for (int v = 0; v < 10; v++) x.weight(v, 0, 30);
        x.weight(0, 1, 30);
        odds("just, of large numbers", x, half, Edge.NONE, "0 1/2");
        // A run of weight 30 is taken away, or added, in 60 * 31^9.
        odds("a little below, of large numbers", x, below, Edge.NONE, "-1 13219811080335/26439622160671");
        for (int v = 1; v < 10; v++) swapWeights(x, v);
        odds("a little above, of large numbers", x, above, Edge.NONE, "1 13219811080336/26439622160671");
        odds("none, given one", x, one, x.not(one), "-1 0/1");
        odds("given just itself", x, one, one, "1 1/1");
    }

    /** Numbers beyond an int, of all sizes and signs of what is between them and a half. */
    static void large() {
        DiagramOdds x = new DiagramOdds();
        Oracle o = new Oracle();
        for (int v = 0; v < 10; v++) {
            x.choice(2);
            o.choice(2);
            for (int value = 0; value < 2; value++) {
                x.weight(v, value, 30 - v - value);
                o.weight(v, value, 30 - v - value);
            }
        }
        for (int n = 0; n <= 11; n++) {
            x.many(1023, n);
            o.many(1023, n);
            for (int given = -1; given < Math.min(n, 9); given += 3) {
                odds(n + " at least, given " + given, x, n, given, o.odds(n, given) + " " + o.part(false) + "/" + o.part(true));
            }
        }
    }

    private static void swapWeights(DiagramOdds x, int truth) {
        x.weight(truth, 1, x.weight(truth, 0, x.weight(truth, 1, 0)));
    }

    static void thrown() {
        Check.promise(28, "ArithmeticException when the weight of the other one is 0 (what was told stays).");
        DiagramOdds x = Check.with(2, 3);
        int truth = x.is(0, 1), never = x.many(0, 1), all = x.many(0, 0), low = x.is(1, 0);
        odds("never so, before any", x, truth, never, "throws.ArithmeticException 0/0");
        odds("told", x, low, Edge.NONE, "-1 1/3");
        odds("never so", x, truth, never, "throws.ArithmeticException 1/3");
        odds("never so, both", x, never, never, "throws.ArithmeticException 1/3");
        x.weight(0, 1, 0);
        odds("no weight", x, all, truth, "throws.ArithmeticException 1/3");
        odds("some weight", x, truth, all, "-1 0/1");
        x.weight(0, 1, 1);
        x.rule(0, 1, true);
        odds("ruled out", x, low, truth, "throws.ArithmeticException 0/1");
        odds("not ruled out", x, low, all, "-1 1/3");
        x.rule(0, 0, true);
        odds("nothing given, all ruled out", x, low, Edge.NONE, "throws.ArithmeticException 1/3");
        odds("all given, all ruled out", x, low, all, "throws.ArithmeticException 1/3");
        x.rule(0, 1, false);
        odds("one is back", x, low, Edge.NONE, "-1 1/3");
        DiagramOdds none = new DiagramOdds();
        none.many(0, 0);
        odds("without variables", none, 0, Edge.NONE, "1 1/1");
    }

    static void unknown() {
        Check.promise(28, "UNKNOWN.");
        Edge.span("function", Edge::mixed, (x, n) -> x.odds(n, 0), 0, 4, Edge.UNKNOWN);
        Edge.span("function of forty", Edge::mixedFull, (x, n) -> x.odds(n, 0), 0, 39, Edge.UNKNOWN);
        Edge.span("given", Edge::tenTruthsAndOne, (x, n) -> x.odds(0, n), Edge.NONE, 0, Edge.UNKNOWN);
        Edge.span("given of forty", Edge::mixedFull, (x, n) -> x.odds(0, n), Edge.NONE, 39, Edge.UNKNOWN);
        DiagramOdds x = Edge.mixed();
        odds("told", x, 0, Edge.NONE, "-1 1/3");
        odds("NONE is no function", x, Edge.NONE, Edge.NONE, "-101 1/3");
        odds("no function, given what has no weight", x, 5, 4, "-101 1/3");
        odds("no function given, for what is never so", x, 4, 5, "-101 1/3");
        x.rule(0, 0, true);
        x.rule(0, 1, true);
        odds("no function, nothing has weight", x, 5, Edge.NONE, "-101 1/3");
    }

    static void part() {
        Check.promise(29, "Of the ODDS told last: the upper number, or the lower one; 0 before any.");
        DiagramOdds x = Check.with(6);
        Check.due("upper before any", x.part(false), 0);
        Check.due("lower before any", x.part(true), 0);
        int one = x.is(0, 5);
        Check.due("refused", x.odds(1, Edge.NONE), Edge.UNKNOWN);
        Check.due("upper, refused", x.part(false), 0);
        Check.due("lower, refused", x.part(true), 0);
        x.odds(one, Edge.NONE);
        Check.due("upper", x.part(false), 1);
        Check.due("lower", x.part(true), 6);
        Check.due("upper again", x.part(false), 1);
        x.odds(x.not(one), Edge.NONE);
        Check.due("upper of the last", x.part(false), 5);
        x.weight(0, 5, 0);
        x.rule(0, 4, true);
        x.choice(2);
        x.best(one);
        x.weigh(one);
        Check.due("upper stays", x.part(false), 5);
        Check.due("lower stays", x.part(true), 6);
    }

    public static void main(String[] args) {
        lowestTerms();
        half();
        large();
        thrown();
        unknown();
        part();
        Check.finish("odds at their bounds");
    }
}
