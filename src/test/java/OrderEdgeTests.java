/** Promises 36 to 38 and THE ORDER, at their bounds. */
public final class OrderEdgeTests {
    private OrderEdgeTests() { }

    static void order() {
        Check.term("THE ORDER is a row of all variables, at first as they are made (a new one comes to its end).");
        DiagramOdds x = new DiagramOdds();
        for (int v = 0; v < 10; v++) {
            x.choice(2);
            Check.due("at first", x.place(v), v);
        }
        DiagramOdds y = Check.with(2, 3);
        y.move(0, 1);
        y.choice(4);
        Check.due("a new one comes to the end", OrderTests.order(y, 3), "102");
        y.move(2, 0);
        y.choice(2);
        Check.due("another one comes to the end", OrderTests.order(y, 4), "2103");
        y.choice(7);
        Check.due("a refused one does not", y.place(4), Edge.UNKNOWN);
        int f = y.join(0, y.is(3, 1), y.is(2, 0));
        Check.due("the diagram is in that order", y.enter(f), 2);
        Check.due("down to the end", y.down(0), 3);
    }

    static void place() {
        Check.promise(36, "The place of a variable in THE ORDER (from 0).");
        DiagramOdds x = Edge.tenTruths();
        Check.due("the first", x.place(0), 0);
        Check.due("the last", x.place(9), 9);
        x.move(9, 0);
        Check.due("the last, moved", x.place(9), 0);
        Check.due("the first, behind it", x.place(0), 1);
        Check.due("the one before the last", x.place(8), 9);
        Check.promise(36, "UNKNOWN.");
        Edge.span("variable", Edge::mixed, (y, n) -> y.place(n), 0, 3, Edge.UNKNOWN);
        Edge.span("variable of ten", Edge::tenTruths, (y, n) -> y.place(n), 0, 9, Edge.UNKNOWN);
        Check.due("without variables", new DiagramOdds().place(0), Edge.UNKNOWN);
    }

    static void move() {
        Check.promise(37, "A variable comes to a place, the others stay in their order: the SIZE of all functions.");
        moved(0, 0, "0123456789");
        moved(9, 9, "0123456789");
        moved(5, 5, "0123456789");
        moved(0, 9, "1234567890");
        moved(9, 0, "9012345678");
        moved(0, 1, "1023456789");
        moved(9, 8, "0123456798");
        moved(3, 7, "0124567389");
        moved(7, 3, "0127345689");
        DiagramOdds x = Check.with(2, 2, 2, 2);
        Check.due("without functions", x.move(0, 3), 0);
        x.move(0, 0);
        x.join(0, x.compare(0, 2, 0), x.compare(1, 3, 0));
        Check.due("nothing moves", x.move(0, 0), 9 + 3 + 1);
        Check.due("together", x.move(2, 1), 6 + 2 + 1);
        Check.due("apart", x.move(2, 3), 9 + 3 + 1);
        Check.due("one variable", Check.with(2).move(0, 0), 0);
        Check.promise(37, "UNKNOWN, OUTSIDE (the place).");
        Edge.span("variable", Edge::mixed, (y, n) -> y.move(n, 0), 0, 3, Edge.UNKNOWN);
        Edge.span("place", Edge::mixed, (y, n) -> y.move(1, n), 0, 3, Edge.OUTSIDE);
        Edge.span("place of one", () -> Check.with(6), (y, n) -> y.move(0, n), 0, 0, Edge.OUTSIDE);
        Edge.span("place of ten", Edge::tenTruths, (y, n) -> y.move(4, n), 0, 9, Edge.OUTSIDE);
        Check.due("UNKNOWN before OUTSIDE", Edge.mixed().move(4, 4), Edge.UNKNOWN);
        Check.due("UNKNOWN before OUTSIDE, below", Edge.mixed().move(-1, -1), Edge.UNKNOWN);
        Check.due("without variables", new DiagramOdds().move(0, 0), Edge.UNKNOWN);
        DiagramOdds y = Edge.mixed();
        for (int place : new int[] {-1, 4}) y.move(0, place);
        Check.due("refused: nothing moved", OrderTests.order(y, 4), "0123");
    }

    private static void moved(int variable, int place, String due) {
        DiagramOdds x = Edge.tenTruthsAndOne();
        Check.due("size", x.move(variable, place), 1);
        Check.due(variable + " to " + place, OrderTests.order(x, 10), due);
    }

    static void seek() {
        Check.promise(38, "For each variable, by their numbers: it comes to the place (the others staying in their order) "
            + "where the SIZE of all functions is least, of several the first one: that size in the end.");
        Check.due("without variables", new DiagramOdds().seek(), 0);
        Check.due("without functions", Check.with(2, 3).seek(), 0);
        DiagramOdds none = Check.with(2, 3, 4);
        none.seek();
        Check.due("all places alike: each to the first", OrderTests.order(none, 3), "210");
        DiagramOdds leaf = Check.with(2, 3);
        leaf.many(0, 0);
        Check.due("of a leaf", leaf.seek(), 0);
        Check.due("of a leaf: each to the first", OrderTests.order(leaf, 2), "10");
        DiagramOdds one = Check.with(6);
        one.is(0, 3);
        Check.due("of one variable", one.seek(), 1);
        Check.due("it stays", one.place(0), 0);
        // 012, 102 and 120 have 5 nodes: 0 stays first. 021 has 4: 1 goes last. 201 has 4, too: 2 goes first.
        DiagramOdds x = Check.with(2, 3, 2);
        Check.read(x, "f:#0&#1=2|!#0&(#2&#1=1|!#2&#1=2);");
        Check.due("before", x.size(Edge.NONE), 5);
        Check.due("in the end", x.seek(), 4);
        Check.due("of several the first one", OrderTests.order(x, 3), "201");
        byMoves(Check.with(2, 2, 2, 2), Check.with(2, 2, 2, 2));
        byMoves(Edge.mixed(), Edge.mixed());
        byMoves(Edge.tenTruths(), Edge.tenTruths());
        byMoves(Check.with(6, 5, 4, 3), Check.with(6, 5, 4, 3));
    }

    private static void entangle(DiagramOdds x, int variables) {
        for (int v = 0; v + 2 < variables; v++) x.compare(v, v + 2, v % 3);
        x.compare(variables - 1, 0, 1);
        int f = x.join(2, x.compare(0, 1, 1), x.compare(variables - 1, 1, 2));
        for (int i = 0; i < 8; i++) f = x.join(i % 6, f, i);
        x.move(variables - 1, 1);
    }

    /** The second object does by moves what the first one seeks. */
    private static void byMoves(DiagramOdds x, DiagramOdds y) {
        int variables = 0;
        while (variables < 10 && x.place(variables) >= 0) variables++;
        entangle(x, variables);
        entangle(y, variables);
        for (int v = 0; v < variables; v++) {
            int least = Integer.MAX_VALUE, first = 0;
            for (int place = 0; place < variables; place++) {
                int size = y.move(v, place);
                if (size < least) first = place;
                least = Math.min(least, size);
            }
            y.move(v, first);
        }
        Check.due("size", x.seek(), y.size(Edge.NONE));
        Check.due("order", OrderTests.order(x, variables), OrderTests.order(y, variables));
        Check.due("size of all", x.size(Edge.NONE), y.size(Edge.NONE));
    }

    public static void main(String[] args) {
        order();
        place();
        move();
        seek();
        Check.finish("the order at its bounds");
    }
}
