/** Promises 1 to 4 and the terms of variables and weights, at their bounds. */
public final class VariableEdgeTests {
    private VariableEdgeTests() { }

    static void newObject() {
        Check.promise(1, "No variables, no functions, no names, an empty tape, nothing told.");
        Check.due("place", new DiagramOdds().place(0), Edge.UNKNOWN);
        Check.due("weight", new DiagramOdds().weight(0, 0, 1), Edge.UNKNOWN);
        Check.due("rule", new DiagramOdds().rule(0, 0, true), Edge.UNKNOWN);
        Check.due("is", new DiagramOdds().is(0, 0), Edge.UNKNOWN);
        Check.due("compare", new DiagramOdds().compare(0, 0, 0), Edge.UNKNOWN);
        Check.due("many", new DiagramOdds().many(1, 0), Edge.OUTSIDE);
        Check.due("move", new DiagramOdds().move(0, 0), Edge.UNKNOWN);
        Check.due("seek", new DiagramOdds().seek(), 0);
        Check.due("the first variable", new DiagramOdds().choice(2), 0);
        Check.due("runs", new DiagramOdds().runs(0), Edge.UNKNOWN);
        Check.due("size of all", new DiagramOdds().size(Edge.NONE), 0);
        Check.due("odds", new DiagramOdds().odds(0, Edge.NONE), Edge.UNKNOWN);
        Check.due("the first function", new DiagramOdds().many(0, 0), 0);
        Check.due("named", Check.named(new DiagramOdds(), "a"), Edge.STATE);
        Check.due("a name", Check.read(new DiagramOdds(), "a:b;"), -1002);
        Check.due("read", new DiagramOdds().read(), 0);
        Check.due("fault", new DiagramOdds().fault(), 0);
        Check.due("named, with an empty tape", new DiagramOdds().named(), Edge.STATE);
        Check.due("the first bytes", new DiagramOdds().feed(0, 0, 0, 0, 0), 20);
        Check.due("told, of no variable", new DiagramOdds().told(0), Edge.UNKNOWN);
        Check.due("told", Check.with(2).told(0), Edge.STATE);
        Check.due("upper", new DiagramOdds().part(false), 0);
        Check.due("lower", new DiagramOdds().part(true), 0);
        Check.due("here", new DiagramOdds().here(), Edge.NONE);
        Check.due("down", new DiagramOdds().down(0), Edge.STATE);
        Check.due("printed", new DiagramOdds().printed(0), Edge.NONE);
    }

    static void tenAtMost() {
        Check.term("VARIABLES are numbered 0, 1, .. as they are made (10 at most)");
        DiagramOdds x = new DiagramOdds();
        for (int i = 0; i < 10; i++) {
            Check.due("what is refused takes no number", x.choice(7), Edge.OUTSIDE);
            Check.due("number " + i, x.choice(2), i);
        }
        Check.due("an eleventh", x.choice(2), Edge.ROOM);
        Check.due("the tenth is there", x.place(9), 9);
        Check.due("the eleventh is not", x.place(10), Edge.UNKNOWN);
    }

    static void valuesOfEach() {
        Check.term("each has 2 .. 6 VALUES 0, 1, ..");
        for (int values = 2; values <= 6; values++) {
            int last = values - 1;
            Edge.span("values of " + values, () -> Check.with(last + 1), (x, n) -> x.is(0, n), 0, last, Edge.OUTSIDE);
            DiagramOdds x = Check.with(values);
            for (int value = 0; value < values; value++) Check.due("runs of each", x.runs(x.is(0, value)), 1);
            Check.due("runs of all", x.runs(x.many(0, 0)), values);
        }
    }

    static void productTaken(int... sizes) {
        DiagramOdds x = new DiagramOdds();
        int runs = 1;
        for (int i = 0; i < sizes.length; i++) {
            Check.due("values " + sizes[i] + " at " + runs, x.choice(sizes[i]), i);
            runs *= sizes[i];
        }
        Check.due("runs of all", x.runs(x.many(0, 0)), runs);
        Check.due("runs of the last value", x.runs(x.is(sizes.length - 1, sizes[sizes.length - 1] - 1)), runs / sizes[sizes.length - 1]);
    }

    static void productRefused(int last, int... before) {
        DiagramOdds x = Check.with(before);
        int runs = x.runs(x.many(0, 0));
        Check.due("values " + last + " at " + runs, x.choice(last), Edge.ROOM);
        Check.due("no variable came of it", x.place(before.length), Edge.UNKNOWN);
        Check.due("nor a run", x.runs(0), runs);
    }

    /** 1024 can be had; the next product that factors 2 .. 6 can have is 1080. */
    static void product() {
        Check.term("the numbers of values multiplied are 1024 at most.");
        productTaken(2, 2, 2, 2, 2, 2, 2, 2, 2, 2);
        productTaken(4, 4, 4, 4, 4);
        productTaken(2, 4, 4, 4, 4, 2);
        productTaken(2, 2, 2, 2, 2, 2, 2, 2, 4);
        productTaken(5, 5, 4, 2, 5);
        productTaken(6, 6, 3, 3, 3);
        productTaken(6, 3, 3, 3, 6);
        productRefused(2, 6, 6, 5, 3);
        productRefused(3, 6, 6, 5, 2);
        productRefused(4, 6, 5, 3, 3);
        productRefused(5, 6, 6, 6);
        productRefused(6, 6, 6, 5);
        productRefused(2, 4, 4, 4, 4, 4);
        productRefused(6, 4, 4, 4, 4, 4);
        productRefused(2, 5, 5, 5, 5);
        DiagramOdds x = Check.with(6, 6, 6);
        x.choice(5);
        Check.due("a smaller one behind one that was too large", x.choice(4), 3);
    }

    static void truths() {
        Check.term("One with 2 values is a TRUTH (1: it is so).");
        DiagramOdds x = Check.with(2);
        Check.due("many takes it", x.alike(x.many(1, 1), x.is(0, 1)), 1);
        Check.due("substitute takes it", x.alike(x.substitute(0, 0, 0), 0), 1);
        Check.due("a text takes it", Check.read(x, "a:#0;"), 1);
        Check.due("as 1", x.alike(Check.named(x, "a"), 0), 1);
        for (int values = 3; values <= 6; values++) {
            DiagramOdds y = Check.with(values);
            y.is(0, 1);
            Check.due("many of " + values, y.many(1, 1), Edge.OUTSIDE);
            Check.due("substitute of " + values, y.substitute(0, 0, 0), Edge.STATE);
            Check.due("a text of " + values, Check.read(y, "a:#0;"), -1002);
            Check.due("its kind", y.fault(), 4);
        }
    }

    static void aRun() {
        Check.term("A RUN is a value for each variable.");
        DiagramOdds x = new DiagramOdds();
        x.many(0, 0);
        Check.due("of no variables there is one", x.runs(0), 1);
        int runs = 1;
        for (int values : new int[] {6, 5, 4, 3, 2}) {
            x.choice(values);
            runs *= values;
            Check.due("behind " + values, x.runs(0), runs);
        }
    }

    static void choice() {
        Check.promise(2, "A variable with so many values: its number.");
        for (int values = 2; values <= 6; values++) {
            DiagramOdds x = Check.with(3);
            Check.due("values " + values, x.choice(values), 1);
            Check.due("it has the last", x.weight(1, values - 1, 1), 1);
            Check.due("it has no more", x.weight(1, values, 1), Edge.OUTSIDE);
        }
        Check.promise(2, "OUTSIDE (2 .. 6), ROOM (10; 1024).");
        Edge.span("values", DiagramOdds::new, (x, n) -> x.choice(n), 2, 6, Edge.OUTSIDE);
        Check.due("no values", new DiagramOdds().choice(0), Edge.OUTSIDE);
        for (int n : new int[] {1, 7}) {
            Check.due("OUTSIDE before ROOM, with ten: " + n, Edge.tenTruths().choice(n), Edge.OUTSIDE);
            Check.due("OUTSIDE before ROOM, with 1024: " + n, Check.with(4, 4, 4, 4, 4).choice(n), Edge.OUTSIDE);
        }
        for (int n = 2; n <= 6; n++) Check.due("ROOM, with ten: " + n, Edge.tenTruths().choice(n), Edge.ROOM);
    }

    static void weights() {
        Check.term("WEIGHTS: each value of a variable has one, 0 .. 30, at first 1.");
        for (int values = 2; values <= 6; values++) {
            DiagramOdds x = Check.with(2, values);
            for (int value = 0; value < values; value++) {
                Check.due("at first", x.weight(1, value, 30), 1);
                Check.due("then the most", x.weight(1, value, 0), 30);
                Check.due("then the least", x.weight(1, value, value), 0);
            }
            for (int value = 0; value < values; value++) Check.due("each its own", x.weight(1, value, 1), value);
            Check.due("the other one's are as they were", x.weight(0, 0, 1) + x.weight(0, 1, 1), 2);
        }
        Check.promise(3, "The weight of a value: what it had.");
        DiagramOdds x = Check.with(6);
        for (int weight = 0; weight <= 30; weight++) x.weight(0, 5, weight);
        Check.due("the latest", x.weight(0, 5, 30), 30);
        Check.due("the same again", x.weight(0, 5, 30), 30);
        x.rule(0, 5, true);
        Check.due("of what is ruled out", x.weight(0, 5, 4), 30);
        x.rule(0, 5, false);
        Check.due("of what is so no more", x.weight(0, 5, 1), 4);
        x.weight(0, 0, 9);
        x.choice(3);
        Check.due("a new variable has its own", x.weight(1, 0, 1), 1);
        Check.due("the old one keeps its own", x.weight(0, 0, 1), 9);
    }

    static void weightRefused() {
        Check.promise(3, "UNKNOWN (the variable), OUTSIDE (the value, the weight).");
        Edge.span("variable", Edge::mixed, (x, n) -> x.weight(n, 1, 5), 0, 3, Edge.UNKNOWN);
        Edge.span("value of two", Edge::mixed, (x, n) -> x.weight(2, n, 5), 0, 1, Edge.OUTSIDE);
        Edge.span("value of six", Edge::mixed, (x, n) -> x.weight(3, n, 5), 0, 5, Edge.OUTSIDE);
        Edge.span("weight", Edge::mixed, (x, n) -> x.weight(3, 5, n), 0, 30, Edge.OUTSIDE);
        Check.due("UNKNOWN before OUTSIDE, the value", Edge.mixed().weight(4, -1, 5), Edge.UNKNOWN);
        Check.due("UNKNOWN before OUTSIDE, the weight", Edge.mixed().weight(-1, 0, 31), Edge.UNKNOWN);
        DiagramOdds x = Edge.mixed();
        x.weight(3, 5, 7);
        for (int n : new int[] {-1, 31}) x.weight(3, 5, n);
        Check.due("what is refused leaves the weight", x.weight(3, 5, 1), 7);
    }

    static void evidence() {
        Check.term("EVIDENCE rules values of variables out (none at first).");
        for (int values = 2; values <= 6; values++) {
            DiagramOdds x = Check.with(values);
            int all = x.many(0, 0);
            for (int value = 0; value < values; value++) {
                Check.due("not at first", x.rule(0, value, false), 0);
                Check.due("now it is", x.rule(0, value, true), 1);
                Check.due("the others are not", x.weigh(all), values - 1 - value);
            }
            Check.due("all of them are out", x.best(all), 0);
            x.choice(2);
            Check.due("none of a new variable's", x.rule(1, 0, false) + x.rule(1, 1, false), 0);
        }
    }

    static void rule() {
        Check.promise(4, "A value is ruled out by EVIDENCE, or is not any more: 1 if that is new, else 0.");
        DiagramOdds x = Check.with(2, 6);
        x.is(1, 5);
        Check.due("is not, still", x.rule(1, 5, false), 0);
        Check.due("is, newly", x.rule(1, 5, true), 1);
        Check.due("is, still", x.rule(1, 5, true), 0);
        Check.due("and is out", x.weigh(0), 0);
        Check.due("is not, newly", x.rule(1, 5, false), 1);
        Check.due("is not, still, again", x.rule(1, 5, false), 0);
        Check.due("and is not out", x.weigh(0), 2);
        Check.promise(4, "UNKNOWN, OUTSIDE.");
        for (boolean out : new boolean[] {true, false}) {
            Edge.span("variable", Edge::mixed, (y, n) -> y.rule(n, 0, out), 0, 3, Edge.UNKNOWN);
            Edge.span("value of three", Edge::mixed, (y, n) -> y.rule(1, n, out), 0, 2, Edge.OUTSIDE);
            Edge.span("value of six", Edge::mixed, (y, n) -> y.rule(3, n, out), 0, 5, Edge.OUTSIDE);
            Check.due("UNKNOWN before OUTSIDE", Edge.mixed().rule(4, 6, out), Edge.UNKNOWN);
            Check.due("UNKNOWN before OUTSIDE, below", Edge.mixed().rule(-1, -1, out), Edge.UNKNOWN);
        }
    }

    public static void main(String[] args) {
        newObject();
        tenAtMost();
        valuesOfEach();
        product();
        truths();
        aRun();
        choice();
        weights();
        weightRefused();
        evidence();
        rule();
        Check.finish("variables at their bounds");
    }
}
