/** Promises 5 to 14: is, compare, many, join, not, choose, condition, quantify, substitute, exchange. */
public final class FunctionTests {
    private FunctionTests() { }

    static void is() {
        DiagramOdds x = Check.with(2, 3);
        Check.due("5 the first", x.is(1, 2), 0);
        Check.due("5 row", Check.row(x, 0, 2, 3), "001001");
        Check.due("5 the second", x.is(0, 0), 1);
        Check.due("5 row of a truth", Check.row(x, 1, 2, 3), "111000");
        Check.due("5 no variable", x.is(2, 0), DiagramOdds.UNKNOWN);
        Check.due("5 no variable, below", x.is(-1, 0), DiagramOdds.UNKNOWN);
        Check.due("5 UNKNOWN before OUTSIDE", x.is(2, 7), DiagramOdds.UNKNOWN);
        Check.due("5 no value", x.is(1, 3), DiagramOdds.OUTSIDE);
        Check.due("5 no value, below", x.is(1, -1), DiagramOdds.OUTSIDE);
        Check.due("5 what is refused makes nothing", x.is(1, 0), 2);
        Check.fill(x);
        Check.due("5 no room", x.is(1, 0), DiagramOdds.ROOM);
        Check.due("5 OUTSIDE before ROOM", x.is(1, 3), DiagramOdds.OUTSIDE);
        Check.due("5 UNKNOWN before ROOM", x.is(5, 0), DiagramOdds.UNKNOWN);
        Check.due("5 forty are there", x.runs(39), 6);
        Check.due("5 no more", x.runs(40), DiagramOdds.UNKNOWN);
    }

    static void compare() {
        DiagramOdds x = Check.with(3, 2);
        Check.due("6 alike", Check.row(x, x.compare(0, 1, 0), 3, 2), "100100");
        Check.due("6 less", Check.row(x, x.compare(0, 1, 1), 3, 2), "010000");
        Check.due("6 less or alike", Check.row(x, x.compare(0, 1, 2), 3, 2), "110100");
        Check.due("6 the other way round", Check.row(x, x.compare(1, 0, 1), 3, 2), "001011");
        Check.due("6 one with itself, alike", Check.row(x, x.compare(0, 0, 0), 3, 2), "111111");
        Check.due("6 one with itself, less", Check.row(x, x.compare(1, 1, 1), 3, 2), "000000");
        Check.due("6 one with itself, less or alike", Check.row(x, x.compare(1, 1, 2), 3, 2), "111111");
        Check.due("6 no such how", x.compare(0, 1, 3), DiagramOdds.OUTSIDE);
        Check.due("6 no such how, below", x.compare(0, 1, -1), DiagramOdds.OUTSIDE);
        Check.due("6 no first", x.compare(2, 1, 9), DiagramOdds.UNKNOWN);
        Check.due("6 no second", x.compare(0, -1, 9), DiagramOdds.UNKNOWN);
        Check.fill(x);
        Check.due("6 no room", x.compare(0, 1, 0), DiagramOdds.ROOM);
        Check.due("6 OUTSIDE before ROOM", x.compare(0, 1, 3), DiagramOdds.OUTSIDE);
    }

    static void many() {
        DiagramOdds x = Check.with(2, 3, 2, 2);
        Check.due("7 two of three", x.runs(x.many(13, 2)), 4 * 3);
        Check.due("7 three of three", x.runs(x.many(13, 3)), 3);
        Check.due("7 more than there are", x.runs(x.many(13, 4)), 0);
        Check.due("7 none at least", x.runs(x.many(13, 0)), 24);
        Check.due("7 less than none", x.runs(x.many(13, Integer.MIN_VALUE)), 24);
        Check.due("7 as many as can be said", x.runs(x.many(13, Integer.MAX_VALUE)), 0);
        Check.due("7 of no truths, none", x.runs(x.many(0, 0)), 24);
        Check.due("7 of no truths, one", x.runs(x.many(0, 1)), 0);
        Check.due("7 one of one is that", x.alike(x.many(4, 1), x.is(2, 1)), 1);
        Check.due("7 a bit of no truth", x.many(2, 1), DiagramOdds.OUTSIDE);
        Check.due("7 a bit of none", x.many(16, 1), DiagramOdds.OUTSIDE);
        Check.due("7 the highest bit", x.many(Integer.MIN_VALUE, 1), DiagramOdds.OUTSIDE);
        Check.due("7 all bits", x.many(-1, 0), DiagramOdds.OUTSIDE);
        Check.due("7 the first bit of no truth", Check.with(3, 2).many(1, 1), DiagramOdds.OUTSIDE);
        Check.fill(x);
        Check.due("7 no room", x.many(1, 1), DiagramOdds.ROOM);
        Check.due("7 OUTSIDE before ROOM", x.many(2, 1), DiagramOdds.OUTSIDE);
    }

    static void join() {
        DiagramOdds x = Check.with(2, 2);
        x.is(0, 1);
        x.is(1, 1);
        String[] rows = {"0001", "0111", "0110", "1101", "1001", "0010"};
        for (int op = 0; op < 6; op++) {
            Check.due("8 number of op " + op, x.join(op, 0, 1), op + 2);
            Check.due("8 op " + op, Check.row(x, op + 2, 2, 2), rows[op]);
        }
        Check.due("8 the other way round", Check.row(x, x.join(3, 1, 0), 2, 2), "1011");
        Check.due("8 one with itself", Check.row(x, x.join(4, 0, 0), 2, 2), "1111");
        Check.due("8 no op", x.join(6, 0, 1), DiagramOdds.OUTSIDE);
        Check.due("8 no op, below", x.join(-1, 0, 1), DiagramOdds.OUTSIDE);
        Check.due("8 no first", x.join(6, 10, 1), DiagramOdds.UNKNOWN);
        Check.due("8 no second", x.join(6, 0, -1), DiagramOdds.UNKNOWN);
        Check.fill(x);
        Check.due("8 no room", x.join(0, 0, 1), DiagramOdds.ROOM);
        Check.due("8 OUTSIDE before ROOM", x.join(6, 0, 1), DiagramOdds.OUTSIDE);
    }

    static void not() {
        DiagramOdds x = Check.with(3, 2);
        x.compare(0, 1, 1);
        Check.due("9 number", x.not(0), 1);
        Check.due("9 row", Check.row(x, 1, 3, 2), "101111");
        Check.due("9 twice", x.alike(x.not(1), 0), 1);
        Check.due("9 runs", x.runs(1), 5);
        Check.due("9 not there", x.not(3), DiagramOdds.UNKNOWN);
        Check.due("9 not there, below", x.not(-1), DiagramOdds.UNKNOWN);
        Check.fill(x);
        Check.due("9 no room", x.not(0), DiagramOdds.ROOM);
        Check.due("9 UNKNOWN before ROOM", x.not(40), DiagramOdds.UNKNOWN);
    }

    static void choose() {
        DiagramOdds x = Check.with(2, 2, 2);
        x.is(0, 1);
        x.is(1, 1);
        x.is(2, 1);
        Check.due("10 number", x.choose(0, 1, 2), 3);
        Check.due("10 row", Check.row(x, 3, 2, 2, 2), "01010011");
        Check.due("10 all the same", x.alike(x.choose(1, 2, 2), 2), 1);
        Check.due("10 no first", x.choose(5, 0, 0), DiagramOdds.UNKNOWN);
        Check.due("10 no second", x.choose(0, 5, 0), DiagramOdds.UNKNOWN);
        Check.due("10 no third", x.choose(0, 0, -1), DiagramOdds.UNKNOWN);
        Check.fill(x);
        Check.due("10 no room", x.choose(0, 1, 2), DiagramOdds.ROOM);
        Check.due("10 UNKNOWN before ROOM", x.choose(0, 1, 40), DiagramOdds.UNKNOWN);
    }

    static void condition() {
        DiagramOdds x = Check.with(3, 3);
        x.compare(0, 1, 1);
        Check.due("11 number", x.condition(0, 0, 1), 1);
        Check.due("11 row", Check.row(x, 1, 3, 3), "001001001");
        Check.due("11 of the other one", Check.row(x, x.condition(0, 1, 1), 3, 3), "111000000");
        Check.due("11 what it does not depend on", x.alike(x.condition(1, 0, 2), 1), 1);
        Check.due("11 no value", x.condition(0, 0, 3), DiagramOdds.OUTSIDE);
        Check.due("11 no value, below", x.condition(0, 0, -1), DiagramOdds.OUTSIDE);
        Check.due("11 no function", x.condition(9, 0, 9), DiagramOdds.UNKNOWN);
        Check.due("11 no variable", x.condition(0, 2, 9), DiagramOdds.UNKNOWN);
        Check.fill(x);
        Check.due("11 no room", x.condition(0, 0, 0), DiagramOdds.ROOM);
        Check.due("11 OUTSIDE before ROOM", x.condition(0, 0, 3), DiagramOdds.OUTSIDE);
    }

    static void quantify() {
        DiagramOdds x = Check.with(3, 3);
        x.compare(0, 1, 2);
        Check.due("12 number", x.quantify(0, 0, true), 1);
        Check.due("12 all", Check.row(x, 1, 3, 3), "001001001");
        Check.due("12 some", Check.row(x, x.quantify(0, 0, false), 3, 3), "111111111");
        Check.due("12 all of the other one", Check.row(x, x.quantify(0, 1, true), 3, 3), "111000000");
        x.compare(0, 1, 1);
        Check.due("12 some, less", Check.row(x, x.quantify(4, 1, false), 3, 3), "111111000");
        Check.due("12 all, less", Check.row(x, x.quantify(4, 1, true), 3, 3), "000000000");
        Check.due("12 the function itself stays", Check.row(x, 4, 3, 3), "011001000");
        Check.due("12 no function", x.quantify(7, 0, true), DiagramOdds.UNKNOWN);
        Check.due("12 no variable", x.quantify(0, 2, true), DiagramOdds.UNKNOWN);
        Check.due("12 no variable, below", x.quantify(0, -1, true), DiagramOdds.UNKNOWN);
        Check.fill(x);
        Check.due("12 no room", x.quantify(0, 0, true), DiagramOdds.ROOM);
        Check.due("12 UNKNOWN before ROOM", x.quantify(0, 2, true), DiagramOdds.UNKNOWN);
    }

    static void substitute() {
        DiagramOdds x = Check.with(2, 3, 2);
        x.is(0, 1);
        x.is(1, 2);
        x.join(2, 0, 1);
        Check.due("13 number", x.substitute(2, 0, 1), 3);
        Check.due("13 odd with itself", Check.row(x, 3, 2, 3, 2), "000000000000");
        Check.due("13 by one that depends on the truth", Check.row(x, x.substitute(0, 0, 2), 2, 3, 2), "000011111100");
        x.is(2, 0);
        Check.due("13 by another one", x.alike(x.substitute(0, 0, 5), 5), 1);
        Check.due("13 where it does not matter", x.alike(x.substitute(1, 2, 0), 1), 1);
        Check.due("13 no truth", x.substitute(0, 1, 0), DiagramOdds.STATE);
        Check.due("13 no function", x.substitute(9, 1, 0), DiagramOdds.UNKNOWN);
        Check.due("13 no variable", x.substitute(0, 3, 0), DiagramOdds.UNKNOWN);
        Check.due("13 no other", x.substitute(0, 1, -1), DiagramOdds.UNKNOWN);
        Check.fill(x);
        Check.due("13 no room", x.substitute(0, 0, 0), DiagramOdds.ROOM);
        Check.due("13 STATE before ROOM", x.substitute(0, 1, 0), DiagramOdds.STATE);
    }

    static void exchange() {
        DiagramOdds x = Check.with(3, 2, 3);
        x.compare(0, 2, 1);
        Check.due("14 number", x.exchange(0, 0, 2), 1);
        Check.due("14 the other way round", x.alike(1, x.compare(2, 0, 1)), 1);
        Check.due("14 back", x.alike(x.exchange(1, 2, 0), 0), 1);
        Check.due("14 one with itself", x.alike(x.exchange(0, 1, 1), 0), 1);
        x.is(0, 2);
        Check.due("14 a value", x.alike(x.exchange(5, 0, 2), x.is(2, 2)), 1);
        Check.due("14 not as many values", x.exchange(0, 0, 1), DiagramOdds.STATE);
        Check.due("14 no function", x.exchange(8, 0, 1), DiagramOdds.UNKNOWN);
        Check.due("14 no first", x.exchange(0, -1, 1), DiagramOdds.UNKNOWN);
        Check.due("14 no second", x.exchange(0, 1, 3), DiagramOdds.UNKNOWN);
        Check.fill(x);
        Check.due("14 no room", x.exchange(0, 0, 2), DiagramOdds.ROOM);
        Check.due("14 STATE before ROOM", x.exchange(0, 0, 1), DiagramOdds.STATE);
    }

    /** What a variable that comes later is does not matter to the functions before. */
    static void laterVariables() {
        DiagramOdds x = Check.with(2);
        x.is(0, 1);
        x.choice(5);
        x.choice(3);
        Check.due("a function before", x.runs(0), 15);
        Check.due("depends on what came later", x.depends(0, 1), 0);
        Check.due("alike with a new one", x.alike(0, x.is(0, 1)), 1);
        Check.due("its negation", x.runs(x.not(0)), 15);
        Check.due("with one of a later variable", x.runs(x.join(0, 0, x.is(2, 2))), 5);
    }

    public static void main(String[] args) {
        is();
        compare();
        many();
        join();
        not();
        choose();
        condition();
        quantify();
        substitute();
        exchange();
        laterVariables();
        Check.finish("functions");
    }
}
