/** Promises 1 to 4: a new object, choice, weight, rule. */
public final class VariableTests {
    private VariableTests() { }

    static void newObject() {
        DiagramOdds x = new DiagramOdds();
        Check.due("1 no variable", x.place(0), DiagramOdds.UNKNOWN);
        Check.due("1 no function", x.runs(0), DiagramOdds.UNKNOWN);
        Check.due("1 size of all", x.size(DiagramOdds.NONE), 0);
        Check.due("1 here", x.here(), DiagramOdds.NONE);
        Check.due("1 printed", x.printed(0), DiagramOdds.NONE);
        Check.due("1 upper", x.part(false), 0);
        Check.due("1 lower", x.part(true), 0);
        Check.due("1 fault", x.fault(), 0);
        Check.due("1 end of an empty tape", Check.throwsOf(() -> x.end(1)), "IllegalArgumentException");
        Check.due("1 read of an empty tape", x.read(), 0);
        Check.due("1 no name", Check.named(x, "a"), DiagramOdds.STATE);
        x.choice(2);
        Check.due("1 nothing told", x.told(0), DiagramOdds.STATE);
        DiagramOdds other = new DiagramOdds();
        Check.due("1 objects share nothing", other.place(0), DiagramOdds.UNKNOWN);
    }

    /** Without variables there is one run. */
    static void noVariables() {
        DiagramOdds x = new DiagramOdds();
        Check.due("2 so always", x.many(0, 0), 0);
        Check.due("2 never so", x.many(0, 1), 1);
        Check.due("2 runs of the one", x.runs(0), 1);
        Check.due("2 runs of the other", x.runs(1), 0);
        Check.due("2 weight", x.weigh(0), 1);
        Check.due("2 least", x.least(0), 1);
        Check.due("2 least of none", x.least(1), 0);
        Check.due("2 best", x.best(0), 1);
        Check.due("2 enter", x.enter(0), -3);
        Check.due("2 print", Check.printed(x, 1), "0");
        Check.due("2 seek", x.seek(), 0);
        Check.due("2 here behind seek", x.here(), DiagramOdds.NONE);
        x.choice(3);
        Check.due("2 runs with a variable", x.runs(0), 3);
        Check.due("2 told of a variable that came later", x.told(0), DiagramOdds.STATE);
    }

    static void choice() {
        DiagramOdds x = new DiagramOdds();
        Check.due("2 one value", x.choice(1), DiagramOdds.OUTSIDE);
        Check.due("2 seven values", x.choice(7), DiagramOdds.OUTSIDE);
        Check.due("2 fewer than none", x.choice(Integer.MIN_VALUE), DiagramOdds.OUTSIDE);
        Check.due("2 no variable came of it", x.place(0), DiagramOdds.UNKNOWN);
        Check.due("2 the first", x.choice(6), 0);
        Check.due("2 the second", x.choice(6), 1);
        Check.due("2 the third", x.choice(6), 2);
        Check.due("2 6 * 6 * 6 * 5", x.choice(5), DiagramOdds.ROOM);
        Check.due("2 6 * 6 * 6 * 4", x.choice(4), 3);
        Check.due("2 1728", x.choice(2), DiagramOdds.ROOM);
        Check.due("2 OUTSIDE before ROOM", x.choice(1), DiagramOdds.OUTSIDE);
        DiagramOdds y = new DiagramOdds();
        for (int i = 0; i < 10; i++) Check.due("2 truth " + i, y.choice(2), i);
        Check.due("2 an eleventh", y.choice(2), DiagramOdds.ROOM);
        Check.due("2 1024 runs", y.runs(y.many(0, 0)), 1024);
        DiagramOdds z = new DiagramOdds();
        for (int i = 0; i < 5; i++) z.choice(4);
        Check.due("2 full at five", z.choice(2), DiagramOdds.ROOM);
    }

    static void weight() {
        DiagramOdds x = new DiagramOdds();
        x.choice(3);
        x.choice(2);
        int all = x.many(0, 0);
        Check.due("3 at first", x.weight(0, 2, 30), 1);
        Check.due("3 then", x.weight(0, 2, 0), 30);
        Check.due("3 none", x.weight(0, 2, 7), 0);
        Check.due("3 of another value", x.weight(0, 1, 2), 1);
        Check.due("3 no variable", x.weight(2, 0, 1), DiagramOdds.UNKNOWN);
        Check.due("3 no variable, below", x.weight(-1, 0, 1), DiagramOdds.UNKNOWN);
        Check.due("3 UNKNOWN before OUTSIDE", x.weight(2, 9, 99), DiagramOdds.UNKNOWN);
        Check.due("3 no value", x.weight(1, 2, 1), DiagramOdds.OUTSIDE);
        Check.due("3 no value, below", x.weight(1, -1, 1), DiagramOdds.OUTSIDE);
        Check.due("3 too heavy", x.weight(0, 2, 31), DiagramOdds.OUTSIDE);
        Check.due("3 too light", x.weight(0, 2, -1), DiagramOdds.OUTSIDE);
        Check.due("3 what is refused changes nothing", x.weigh(all), (1 + 2 + 7) * 2);
        Check.due("3 a weight of its own for each value", x.weigh(x.is(0, 2)), 14);
    }

    static void rule() {
        DiagramOdds x = new DiagramOdds();
        x.choice(3);
        int all = x.many(0, 0);
        x.weight(0, 1, 5);
        Check.due("4 not any more, but never was", x.rule(0, 1, false), 0);
        Check.due("4 out", x.rule(0, 1, true), 1);
        Check.due("4 out again", x.rule(0, 1, true), 0);
        Check.due("4 weight with it out", x.weigh(all), 2);
        Check.due("4 the weight is kept", x.weight(0, 1, 6), 5);
        Check.due("4 still out", x.weigh(all), 2);
        Check.due("4 back", x.rule(0, 1, false), 1);
        Check.due("4 weight with it back", x.weigh(all), 8);
        Check.due("4 no variable", x.rule(1, 0, true), DiagramOdds.UNKNOWN);
        Check.due("4 UNKNOWN before OUTSIDE", x.rule(1, 9, true), DiagramOdds.UNKNOWN);
        Check.due("4 no value", x.rule(0, 3, true), DiagramOdds.OUTSIDE);
        Check.due("4 no value, below", x.rule(0, -1, true), DiagramOdds.OUTSIDE);
        Check.due("4 evidence does not matter to runs", x.runs(all), 3);
        x.choice(2);
        Check.due("4 a new variable has none ruled out", x.weigh(all), 16);
    }

    public static void main(String[] args) {
        newObject();
        noVariables();
        choice();
        weight();
        rule();
        Check.finish("variables");
    }
}
