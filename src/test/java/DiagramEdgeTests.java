/** Promises 31 to 35 and the terms of diagrams, at their bounds. */
public final class DiagramEdgeTests {
    private DiagramEdgeTests() { }

    static void leaves() {
        Check.term("THE DIAGRAM of a function: if it is so for all runs, or for none, it is the leaf 1, or 0.");
        DiagramOdds x = Edge.mixed();
        Check.due("all", x.enter(3), -3);
        Check.due("none", x.enter(4), -2);
        Check.due("all, by a way around", x.enter(x.join(1, 1, x.not(1))), -3);
        Check.due("none, by a way around", x.enter(x.join(2, 1, 1)), -2);
        DiagramOdds most = Edge.tenTruths();
        Check.due("all but one run is no leaf", most.enter(most.many(1023, 1)), 0);
        Check.due("one run is no leaf", most.enter(most.many(1023, 10)), 0);
        DiagramOdds none = new DiagramOdds();
        Check.due("without variables, all", none.enter(none.many(0, 0)), -3);
        Check.due("without variables, none", none.enter(none.many(0, 1)), -2);
    }

    static void nodes() {
        Check.term("Else it is a NODE: the first variable of the order on which it depends, and for each value of this in order the diagram of the function that is as it is with that value (whatever the variable is).");
        DiagramOdds x = Check.with(2, 6, 2, 3);
        int f = x.join(0, x.is(3, 2), x.join(1, x.is(1, 0), x.is(1, 5)));
        Check.due("the first on which it depends", x.enter(f), 1);
        int[] under = {3, -2, -2, -2, -2, 3};
        for (int value = 0; value < 6; value++) {
            x.enter(f);
            Check.due("value " + value, x.down(value), under[value]);
        }
        Check.due("the last variable", x.down(2), -3);
        x.move(3, 0);
        Check.due("in another order", x.enter(f), 3);
        Check.due("in another order, the first value", x.down(0), -2);
        x.enter(f);
        Check.due("in another order, the last value", x.down(2), 1);
        x.move(0, 0);
        Check.due("what it does not depend on may come before", x.enter(f), 3);
    }

    static void oneForWhatIsOne() {
        Check.term("What is alike for all runs is the same node, or leaf, in whichever diagrams it is come to.");
        DiagramOdds x = Check.with(2, 2, 2);
        int f = x.many(7, 2);
        Check.due("within one", x.size(f), 4);
        x.is(2, 1);
        x.not(x.is(2, 0));
        Check.due("of different make", x.size(Edge.NONE), 5);
        x.move(2, 0);
        Check.due("in another order", x.size(Edge.NONE), 4 + 2);
        x.choice(6);
        x.is(2, 1);
        Check.due("with a later variable", x.size(Edge.NONE), 4 + 2);
        DiagramOdds y = Check.with(6, 6);
        y.compare(0, 1, 1);
        Check.due("six values: five nodes below, and a leaf", y.size(0), 6);
        y.compare(0, 1, 2);
        // The new beginning, and a node that the last value of the first one leads to, which is (5 alone).
        Check.due("six values: nodes in common", y.size(Edge.NONE), 6 + 1);
    }

    static void enter() {
        Check.promise(31, "One stands at a function's diagram: as here().");
        DiagramOdds x = Edge.mixed();
        int[] due = {1, 0, 0, -3, -2};
        for (int f = 0; f < 5; f++) {
            Check.due("enter " + f, x.enter(f), due[f]);
            Check.due("here at " + f, x.here(), due[f]);
        }
        Check.promise(31, "UNKNOWN.");
        Edge.span("function", Edge::mixed, (y, n) -> y.enter(n), 0, 4, Edge.UNKNOWN);
        Edge.span("function of forty", Edge::mixedFull, (y, n) -> y.enter(n), 0, 39, Edge.UNKNOWN);
        x.enter(1);
        x.enter(5);
        Check.due("refused: where one was", x.here(), 0);
        x.enter(-1);
        Check.due("refused, below: where one was", x.here(), 0);
        DiagramOdds none = Edge.mixed();
        none.enter(5);
        Check.due("refused: still nowhere", none.here(), Edge.NONE);
    }

    static DiagramOdds at(int function) {
        DiagramOdds x = Edge.mixed();
        x.enter(function);
        return x;
    }

    static void down() {
        Check.promise(32, "From the node at which one stands, to where a value leads: as here().");
        DiagramOdds x = at(1);
        Check.due("a node", x.down(1), 3);
        Check.due("here", x.here(), 3);
        Check.due("a leaf", x.down(1), -2);
        Check.due("here at the leaf", x.here(), -2);
        x.enter(1);
        x.down(1);
        Check.due("the other leaf", x.down(5), -3);
        Check.due("here at the other leaf", x.here(), -3);
        Check.promise(32, "STATE (one stands at a leaf, or nowhere), OUTSIDE (behind STATE: the value).");
        for (int value : new int[] {Integer.MIN_VALUE, -1, 0, 1, 6, Integer.MAX_VALUE}) {
            Check.due("nowhere, " + value, Edge.mixed().down(value), Edge.STATE);
            Check.due("at the leaf 1, " + value, at(3).down(value), Edge.STATE);
            Check.due("at the leaf 0, " + value, at(4).down(value), Edge.STATE);
        }
        Edge.span("of two", () -> at(2), (y, n) -> y.down(n), 0, 1, Edge.OUTSIDE);
        Edge.span("of three", () -> at(0), (y, n) -> y.down(n), 0, 2, Edge.OUTSIDE);
        Edge.span("of six", () -> atSix(), (y, n) -> y.down(n), 0, 5, Edge.OUTSIDE);
        DiagramOdds y = atSix();
        y.down(6);
        y.down(-1);
        Check.due("refused: where one was", y.here(), 3);
        DiagramOdds leaf = at(3);
        leaf.down(0);
        Check.due("refused: at the leaf", leaf.here(), -3);
        DiagramOdds nowhere = Edge.mixed();
        nowhere.down(0);
        Check.due("refused: nowhere", nowhere.here(), Edge.NONE);
    }

    private static DiagramOdds atSix() {
        DiagramOdds x = at(1);
        x.down(0);
        return x;
    }

    static void here() {
        Check.promise(33, "The variable of the node at which one stands; -2 at the leaf 0, -3 at the leaf 1, NONE nowhere.");
        Check.due("nowhere", Edge.mixed().here(), -1);
        Check.due("at the leaf 0", at(4).here(), -2);
        Check.due("at the leaf 1", at(3).here(), -3);
        Check.due("at the first variable", at(1).here(), 0);
        Check.due("at the last variable", atSix().here(), 3);
        DiagramOdds most = Edge.tenTruths();
        most.enter(most.is(9, 1));
        Check.due("at the tenth variable", most.here(), 9);
        Check.promise(33, "(move() and seek(), even if nothing moves, and a new variable leave one nowhere.)");
        for (int function : new int[] {1, 3, 4}) {
            leaves(function, "move", x -> x.move(3, 0), Edge.NONE);
            leaves(function, "move to where it is", x -> x.move(2, 2), Edge.NONE);
            leaves(function, "seek", x -> x.seek(), Edge.NONE);
            leaves(function, "seek again", x -> x.seek() + x.enter(function) + x.seek() + x.enter(function) + x.seek(), Edge.NONE);
            leaves(function, "a new variable", x -> x.choice(2), Edge.NONE);
            int stays = at(function).here();
            leaves(function, "move refused, the variable", x -> x.move(4, 0), stays);
            leaves(function, "move refused, the place", x -> x.move(0, 4), stays);
            leaves(function, "a variable refused, the values", x -> x.choice(7), stays);
            for (Edge.Ask call : FunctionEdgeTests.CALLS) leaves(function, "a new function", call, stays);
            leaves(function, "a text", x -> Check.read(x, "a:#1=2^#3=5;"), stays);
            leaves(function, "a fault", x -> Check.read(x, "a:#1=2^#3=5;@"), stays);
            leaves(function, "print", x -> x.print(1), stays);
            leaves(function, "size", x -> x.size(1) + x.size(-1) + x.ways(1), stays);
            leaves(function, "least and best", x -> x.least(1) + x.best(1), stays);
            leaves(function, "odds", x -> x.odds(1, 0), stays);
            leaves(function, "weight and rule", x -> x.weight(0, 0, 0) + x.rule(1, 1, true), stays);
        }
        DiagramOdds full = Edge.tenTruthsAndOne();
        full.enter(0);
        full.choice(2);
        Check.due("a variable refused, no room", full.here(), 0);
    }

    private static void leaves(int function, String what, Edge.Ask call, int due) {
        DiagramOdds x = at(function);
        call.of(x);
        Check.due(what + ", at function " + function, x.here(), due);
    }

    private static void printed(String what, DiagramOdds x, int function, String due) {
        Check.due("bytes of " + what, x.print(function), due.length());
        Check.due(what, Check.printed(x, function), due);
    }

    static void print() {
        Check.promise(34, "A function's diagram is PRINTED: how many bytes.");
        Check.promise(34, "A leaf is 0 or 1; else the nodes, one blank between each two, numbered from 2 on as they are come to "
            + "(the beginning first, then, of each in the order of numbers, those to which its values lead, in order): "
            + "number : variable ( number or leaf for each value, between them , ) without blanks.");
        DiagramOdds x = Edge.mixed();
        printed("the leaf 1", x, 3, "1");
        printed("the leaf 0", x, 4, "0");
        printed("one node", x, 0, "2:1(0,0,1)");
        printed("two nodes", x, 2, "2:0(0,3) 3:2(0,1)");
        printed("six values", x, 1, "2:0(3,4) 3:3(0,1,1,1,1,1) 4:3(0,0,1,1,1,1)");
        printed("a part of that", x, x.is(2, 1), "2:2(0,1)");
        printed("that again", x, 2, "2:0(0,3) 3:2(0,1)");
        DiagramOdds y = Check.with(3, 2, 2);
        int f = y.choose(y.is(0, 0), y.is(2, 1), y.choose(y.is(0, 1), y.is(1, 1), y.compare(1, 2, 0)));
        printed("as they are come to", y, f, "2:0(3,4,5) 3:2(0,1) 4:1(0,1) 5:1(6,3) 6:2(1,0)");
        y.move(1, 0);
        printed("in another order", y, f, "2:1(3,4) 3:0(5,0,6) 4:0(5,1,5) 5:2(0,1) 6:2(1,0)");
        Check.promise(34, "UNKNOWN.");
        Edge.span("function", Edge::mixed, (z, n) -> z.print(n), 0, 4, Edge.UNKNOWN);
        Edge.span("function of forty", Edge::mixedFull, (z, n) -> z.print(n), 0, 39, Edge.UNKNOWN);
    }

    /** Numbers of three digits: 1024 runs allow 269 nodes. */
    static void largest() {
        DiagramOdds x = Edge.tenTruths();
        Oracle o = new Oracle();
        for (int v = 0; v < 10; v++) o.choice(2);
        String text = "a:#0&#1^#2&#3^#4&#5^#6&#7^#8&#9^#0&#2&#4^#1&#3&#5^#6&#8&#0^#7&#9&#1^#2&#5&#8^#3&#6&#9^#4&#7&#0^#1&#6&#4&#8^#0&#5&#9&#3^#2&#7&#1&#8;";
        o.tape = text;
        Check.due("read", Check.read(x, text), o.read());
        int bytes = o.print(0);
        Check.due("more than a hundred nodes", o.size(0) > 100 ? 1 : 0, 1);
        Check.due("bytes of many nodes", x.print(0), bytes);
        StringBuilder printed = new StringBuilder();
        int from = Math.max(0, bytes - 400);
        for (int i = from; i < bytes; i++) printed.append((char) x.printed(i));
        Check.due("numbers of three digits", printed.toString(), o.printed.substring(from));
    }

    static void byteOf() {
        Check.promise(35, "Byte i of what was printed last; NONE.");
        Check.due("before any", Edge.mixed().printed(0), Edge.NONE);
        DiagramOdds x = Edge.mixed();
        int bytes = x.print(2);
        for (int i : new int[] {Integer.MIN_VALUE, -2, -1, bytes, bytes + 1, Integer.MAX_VALUE}) Check.due("byte " + i, x.printed(i), Edge.NONE);
        Check.due("the first", x.printed(0), '2');
        Check.due("a blank", x.printed(8), ' ');
        Check.due("the last", x.printed(bytes - 1), ')');
        x.print(5);
        x.print(-1);
        Check.due("refused: it stays", x.printed(bytes - 1), ')');
        x.move(2, 0);
        x.choice(2);
        x.not(2);
        x.read();
        x.enter(1);
        Check.due("it stays", x.printed(bytes - 1), ')');
        x.print(3);
        Check.due("the last alone", x.printed(0), '1');
        Check.due("nothing of what was longer", x.printed(1), Edge.NONE);
        x.print(4);
        Check.due("a leaf", x.printed(0), '0');
    }

    public static void main(String[] args) {
        leaves();
        nodes();
        oneForWhatIsOne();
        enter();
        down();
        here();
        print();
        largest();
        byteOf();
        Check.finish("diagrams at their bounds");
    }
}
