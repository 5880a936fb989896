/** Promises 20 to 30: runs, alike, depends, size, ways, least, best, told, odds, part, weigh. */
public final class AskTests {
    private AskTests() { }

    static void runs() {
        DiagramOdds x = Check.with(6, 5, 4, 3, 2);
        x.compare(0, 1, 1);
        Check.due("20 less", x.runs(0), (5 - 1 + 4 - 1 + 3 - 1 + 2 - 1) * 24);
        x.is(4, 1);
        Check.due("20 a half", x.runs(1), 360);
        Check.due("20 all", x.runs(x.many(0, 0)), 720);
        Check.due("20 none", x.runs(x.many(0, 1)), 0);
        Check.due("20 not there", x.runs(4), DiagramOdds.UNKNOWN);
        Check.due("20 NONE is none", x.runs(DiagramOdds.NONE), DiagramOdds.UNKNOWN);
        x.weight(4, 1, 0);
        x.rule(4, 0, true);
        Check.due("20 weights do not matter", x.runs(1), 360);
    }

    static void alike() {
        DiagramOdds x = Check.with(2, 3);
        x.is(0, 1);
        x.not(x.is(0, 0));
        Check.due("21 made in two ways", x.alike(0, 2), 1);
        Check.due("21 not alike", x.alike(0, 1), 0);
        Check.due("21 with itself", x.alike(1, 1), 1);
        Check.due("21 no first", x.alike(3, 0), DiagramOdds.UNKNOWN);
        Check.due("21 no second", x.alike(0, -1), DiagramOdds.UNKNOWN);
        x.choice(2);
        x.move(0, 2);
        Check.due("21 in another order", x.alike(0, 2), 1);
        Check.due("21 with a later one", x.alike(2, x.is(0, 1)), 1);
    }

    static void depends() {
        DiagramOdds x = Check.with(3, 2, 3);
        x.compare(0, 2, 2);
        Check.due("22 on the first", x.depends(0, 0), 1);
        Check.due("22 not on that between", x.depends(0, 1), 0);
        Check.due("22 on the last", x.depends(0, 2), 1);
        int hidden = x.join(1, x.is(0, 2), x.not(1));
        Check.due("22 on nothing", x.depends(hidden, 0), 0);
        x.is(0, 0);
        Check.due("22 at the first value alone", x.depends(4, 0), 1);
        Check.due("22 at the last value alone", x.depends(1, 0), 1);
        Check.due("22 no function", x.depends(5, 0), DiagramOdds.UNKNOWN);
        Check.due("22 no variable", x.depends(0, 3), DiagramOdds.UNKNOWN);
        Check.due("22 no variable, below", x.depends(0, -1), DiagramOdds.UNKNOWN);
    }

    static void size() {
        DiagramOdds x = Check.with(2, 2, 2);
        Check.due("23 no functions", x.size(DiagramOdds.NONE), 0);
        x.many(7, 2);
        Check.due("23 two of three", x.size(0), 4);
        x.not(0);
        Check.due("23 its negation", x.size(1), 4);
        Check.due("23 both, which have no node in common", x.size(DiagramOdds.NONE), 8);
        x.many(7, 2);
        Check.due("23 what is one counts once", x.size(DiagramOdds.NONE), 8);
        x.is(2, 1);
        Check.due("23 what is a part counts once", x.size(DiagramOdds.NONE), 8);
        x.many(0, 0);
        Check.due("23 a leaf", x.size(4), 0);
        Check.due("23 leaves do not count", x.size(DiagramOdds.NONE), 8);
        Check.due("23 not there", x.size(5), DiagramOdds.UNKNOWN);
        Check.due("23 not there, below", x.size(-2), DiagramOdds.UNKNOWN);
        DiagramOdds y = Check.with(6, 6);
        y.compare(0, 1, 0);
        Check.due("23 six values", y.size(0), 7);
    }

    static void ways() {
        DiagramOdds x = Check.with(3, 2, 2);
        x.is(0, 1);
        Check.due("24 one", x.ways(0), 1);
        x.not(0);
        Check.due("24 two", x.ways(1), 2);
        x.join(2, 0, x.is(2, 1));
        Check.due("24 by each value", x.ways(3), 3);
        x.join(1, x.is(1, 1), 0);
        Check.due("24 some are cut short", x.ways(5), 3);
        Check.due("24 the leaf 1", x.ways(x.many(0, 0)), 1);
        Check.due("24 the leaf 0", x.ways(x.many(0, 1)), 0);
        Check.due("24 not there", x.ways(8), DiagramOdds.UNKNOWN);
        DiagramOdds y = Check.with(2, 2);
        int f = y.join(0, y.is(0, 1), y.is(1, 1));
        int g = y.not(f);
        Check.due("24 in this order", y.ways(g), 2);
        DiagramOdds z = Check.with(2, 3);
        int h = z.join(1, z.is(0, 1), z.is(1, 1));
        Check.due("24 before a move", z.ways(h), 2);
        z.move(1, 0);
        Check.due("24 behind a move", z.ways(h), 3);
    }

    static void least() {
        DiagramOdds x = Check.with(3, 2, 3);
        int f = x.join(1, x.compare(2, 0, 1), x.join(0, x.is(1, 1), x.is(2, 2)));
        Check.due("25 there is one", x.least(f), 1);
        Check.told("25 the first variable first", x, 0, 1, 2);
        x.move(2, 0);
        Check.due("25 in another order", x.least(f), 1);
        Check.told("25 the order does not matter", x, 0, 1, 2);
        int less = x.compare(2, 0, 1);
        Check.due("25 there is one of these", x.least(less), 1);
        Check.told("25 of these", x, 1, 0, 0);
        Check.due("25 none", x.least(x.many(0, 1)), 0);
        Check.told("25 what was told stays", x, 1, 0, 0);
        Check.due("25 not there", x.least(20), DiagramOdds.UNKNOWN);
        Check.told("25 what was told stays, refused", x, 1, 0, 0);
        x.rule(0, 1, true);
        x.weight(1, 0, 0);
        Check.due("25 weights do not matter", x.least(less), 1);
        Check.told("25 weights do not matter", x, 1, 0, 0);
    }

    static void best() {
        DiagramOdds x = Check.with(2, 3, 2);
        int all = x.many(0, 0);
        Check.due("26 all alike", x.best(all), 1);
        Check.told("26 of several the least", x, 0, 0, 0);
        x.weight(1, 1, 5);
        x.weight(2, 0, 3);
        x.weight(2, 1, 3);
        Check.due("26 the heaviest", x.best(all), 15);
        Check.told("26 the heaviest", x, 0, 1, 0);
        int f = x.join(0, x.not(x.is(1, 1)), x.is(0, 1));
        Check.due("26 of those that are so", x.best(f), 3);
        Check.told("26 of those that are so", x, 1, 0, 0);
        x.rule(1, 0, true);
        Check.due("26 but not what is ruled out", x.best(f), 3);
        Check.told("26 but not what is ruled out", x, 1, 2, 0);
        x.weight(0, 1, 0);
        Check.due("26 none above 0", x.best(f), 0);
        Check.told("26 what was told stays", x, 1, 2, 0);
        Check.due("26 none at all", x.best(x.many(0, 1)), 0);
        Check.due("26 not there", x.best(40), DiagramOdds.UNKNOWN);
        Check.told("26 what was told stays, refused", x, 1, 2, 0);
        DiagramOdds y = Check.with(2, 2);
        y.weight(0, 1, 2);
        y.weight(1, 1, 2);
        Check.due("26 two of the same weight", y.best(y.compare(0, 1, 1)), 2);
        Check.due("26 two of the same weight, either", y.best(y.join(2, y.is(0, 1), y.is(1, 1))), 2);
        Check.told("26 the least of the two", y, 0, 1);
        y.move(1, 0);
        y.best(3);
        Check.told("26 the least in any order", y, 0, 1);
        DiagramOdds z = Check.with(2, 2, 2, 2, 2, 2, 2, 2, 2, 2);
        for (int v = 0; v < 10; v++) z.weight(v, 1, 30);
        Check.due("26 a large weight", z.best(z.many(0, 0)), 590490000000000L);
        Check.told("26 a large weight", z, 1, 1, 1, 1, 1, 1, 1, 1, 1, 1);
    }

    static void told() {
        DiagramOdds x = Check.with(2, 2);
        int f = x.is(1, 1);
        Check.due("27 nothing told", x.told(0), DiagramOdds.STATE);
        Check.due("27 no variable, nothing told", x.told(2), DiagramOdds.UNKNOWN);
        x.best(x.many(0, 1));
        Check.due("27 still nothing told", x.told(0), DiagramOdds.STATE);
        x.least(f);
        Check.told("27 by least", x, 0, 1);
        Check.due("27 no variable", x.told(2), DiagramOdds.UNKNOWN);
        Check.due("27 no variable, below", x.told(-1), DiagramOdds.UNKNOWN);
        x.choice(3);
        Check.told("27 the older ones", x, 0, 1);
        Check.due("27 the variable came later", x.told(2), DiagramOdds.STATE);
        x.best(f);
        Check.due("27 now it is told", x.told(2), 0);
        x.odds(f, -1);
        Check.told("27 odds tell no run", x, 0, 1, 0);
    }

    static void odds(String what, DiagramOdds x, int answer, long upper, long lower, int... of) {
        Check.due("28 " + what, x.odds(of[0], of[1]), answer);
        Check.due("29 upper of " + what, x.part(false), upper);
        Check.due("29 lower of " + what, x.part(true), lower);
    }

    static void odds() {
        DiagramOdds x = Check.with(2, 6);
        int truth = x.is(0, 1), low = x.is(1, 0), never = x.many(0, 1), always = x.many(0, 0);
        int some = x.join(1, truth, low);
        odds("a half", x, 0, 1, 2, truth, -1);
        odds("a sixth", x, -1, 1, 6, low, -1);
        odds("seven twelfths", x, 1, 7, 12, some, -1);
        odds("given one of them", x, 1, 6, 7, truth, some);
        odds("given itself", x, 1, 1, 1, some, some);
        odds("never", x, -1, 0, 1, never, -1);
        odds("always", x, 1, 1, 1, always, -1);
        odds("never, given some", x, -1, 0, 1, never, some);
        odds("given always", x, 0, 1, 2, truth, always);
        Check.due("28 given never", Check.throwsOf(() -> x.odds(truth, never)), "ArithmeticException");
        Check.due("29 what was told stays", x.part(true), 2);
        Check.due("28 no function, given never", x.odds(5, never), DiagramOdds.UNKNOWN);
        Check.due("28 NONE is no function", x.odds(-1, -1), DiagramOdds.UNKNOWN);
        Check.due("28 nothing of the kind given", x.odds(truth, 5), DiagramOdds.UNKNOWN);
        Check.due("28 nothing of the kind given, below", x.odds(truth, -2), DiagramOdds.UNKNOWN);
        Check.due("29 what was told stays, refused", x.part(false), 1);
        x.weight(0, 0, 21);
        x.weight(0, 1, 14);
        odds("by weights", x, -1, 2, 5, truth, -1);
        x.rule(1, 0, true);
        odds("with evidence", x, -1, 0, 1, low, -1);
        x.rule(0, 0, true);
        odds("by evidence", x, 1, 1, 1, truth, -1);
        x.weight(0, 1, 0);
        Check.due("28 given nothing, which has no weight", Check.throwsOf(() -> x.odds(truth, -1)), "ArithmeticException");
        Check.due("29 what was told stays then", x.part(true), 1);
        DiagramOdds y = Check.with(4, 4, 4, 4, 4);
        for (int v = 0; v < 5; v++) for (int n = 0; n < 4; n++) y.weight(v, n, n == 0 ? 29 : 30);
        long whole = 119L * 119 * 119 * 119 * 119;
        odds("large ones", y, -1, 24389, 1685159, y.join(0, y.is(0, 0), y.join(0, y.is(1, 0), y.is(2, 0))), -1);
        odds("in lowest terms", y, 1, whole - 29L * 29 * 29 * 29 * 29, whole, allBut(y), -1);
        DiagramOdds z = Check.with(2, 2, 2, 2, 2, 2, 2, 2, 2, 2);
        for (int v = 0; v < 10; v++) for (int n = 0; n < 2; n++) z.weight(v, n, 30);
        odds("the largest", z, 1, 1023, 1024, z.many(1023, 1), -1);
        Check.due("30 the largest", z.weigh(z.many(0, 0)), 590490000000000L * 1024);
    }

    private static int allBut(DiagramOdds y) {
        int all = y.is(0, 0);
        for (int v = 1; v < 5; v++) all = y.join(0, all, y.is(v, 0));
        return y.not(all);
    }

    static void weigh() {
        DiagramOdds x = Check.with(2, 3);
        x.compare(0, 1, 1);
        Check.due("30 at first as the runs", x.weigh(0), 3);
        x.weight(0, 0, 2);
        x.weight(1, 2, 10);
        Check.due("30 by weights", x.weigh(0), 2 + 20 + 10);
        x.rule(1, 2, true);
        Check.due("30 with evidence", x.weigh(0), 2);
        Check.due("30 not there", x.weigh(1), DiagramOdds.UNKNOWN);
        Check.due("30 not there, below", x.weigh(-1), DiagramOdds.UNKNOWN);
        x.choice(2);
        x.weight(2, 1, 4);
        Check.due("30 with a later variable", x.weigh(0), 10);
        x.move(2, 0);
        Check.due("30 in another order", x.weigh(0), 10);
    }

    public static void main(String[] args) {
        runs();
        alike();
        depends();
        size();
        ways();
        least();
        best();
        told();
        odds();
        weigh();
        Check.finish("what is asked");
    }
}
