import java.util.ArrayList;
import java.util.List;

/** Refusals: which of several comes first, and that what is refused, or throws, changes nothing. */
public final class RefusalTests {
    private static final String[] NAMES = {"ab", "c", "d", "zz"};

    private final List<String> texts = new ArrayList<>();
    private final List<Edge.Ask> calls = new ArrayList<>();
    private final List<String> dues = new ArrayList<>();

    private RefusalTests() { }

    private RefusalTests row(String text, Edge.Ask call, int due) { return row(text, call, Integer.toString(due)); }

    private RefusalTests row(String text, Edge.Ask call, String due) {
        texts.add(text);
        calls.add(call);
        dues.add(due);
        return this;
    }

    /** Each call on an object of its own, which is then as another one that was never called so. */
    private void changeNothing(Edge.Maker maker) {
        String before = Portrait.of(maker.make(), NAMES);
        for (int i = 0; i < calls.size(); i++) {
            DiagramOdds x = maker.make();
            Check.due(texts.get(i), Edge.answer(x, calls.get(i)), dues.get(i));
            Check.due(texts.get(i) + " leaves", Portrait.of(x, NAMES), before);
        }
    }

    /** Something of all: variables of 2, 3, 2, 4 and 2 values, the last of which came late; functions 0 to 5, of which 5 is never so. */
    static DiagramOdds busy() {
        DiagramOdds x = Check.with(2, 3, 2, 4);
        x.weight(1, 2, 7);
        x.weight(3, 0, 0);
        x.rule(2, 0, true);
        Check.read(x, "ab:#0&#1=2;c:ab|#3=1;");
        x.compare(0, 2, 1);
        x.many(5, 2);
        x.not(1);
        x.many(0, 1);
        x.move(3, 1);
        Check.read(x, "zz:yy;");
        x.least(2);
        x.odds(3, DiagramOdds.NONE);
        x.choice(2);
        x.print(1);
        Check.put(x, "d:c^#2;");
        x.enter(1);
        x.down(1);
        return x;
    }

    static DiagramOdds busyAtLeaf() {
        DiagramOdds x = busy();
        x.enter(5);
        return x;
    }

    static DiagramOdds busyNowhere() {
        DiagramOdds x = busy();
        x.move(3, 1);
        return x;
    }

    /** As many runs, functions and bytes as there can be. */
    static DiagramOdds full() {
        DiagramOdds x = Check.with(2, 3, 2, 4, 5, 4);
        Check.read(x, "ab:#0&#1=2;c:ab|#3=1;");
        for (int i = 2; i < 40; i++) x.is(i % 6, i % 2);
        x.best(0);
        x.odds(1, 0);
        x.print(1);
        x.enter(1);
        Check.put(x, Check.repeat(" ", 399) + "c");
        return x;
    }

    static void variables() {
        Check.term("What is refused changes nothing (but the tape).");
        new RefusalTests()
            .row("choice(1)", x -> x.choice(1), Edge.OUTSIDE)
            .row("choice(7)", x -> x.choice(7), Edge.OUTSIDE)
            .row("weight(5, 0, 3)", x -> x.weight(5, 0, 3), Edge.UNKNOWN)
            .row("weight(-1, 0, 3)", x -> x.weight(-1, 0, 3), Edge.UNKNOWN)
            .row("weight(1, 3, 3)", x -> x.weight(1, 3, 3), Edge.OUTSIDE)
            .row("weight(1, -1, 3)", x -> x.weight(1, -1, 3), Edge.OUTSIDE)
            .row("weight(1, 2, 31)", x -> x.weight(1, 2, 31), Edge.OUTSIDE)
            .row("weight(1, 2, -1)", x -> x.weight(1, 2, -1), Edge.OUTSIDE)
            .row("rule(5, 0, true)", x -> x.rule(5, 0, true), Edge.UNKNOWN)
            .row("rule(1, 3, true)", x -> x.rule(1, 3, true), Edge.OUTSIDE)
            .row("rule(1, -1, true)", x -> x.rule(1, -1, true), Edge.OUTSIDE)
            .row("rule(2, 2, false)", x -> x.rule(2, 2, false), Edge.OUTSIDE)
            .row("rule(2, 0, true), again", x -> x.rule(2, 0, true), 0)
            .row("rule(2, 1, false), again", x -> x.rule(2, 1, false), 0)
            .changeNothing(RefusalTests::busy);
    }

    static void functions() {
        new RefusalTests()
            .row("is(5, 0)", x -> x.is(5, 0), Edge.UNKNOWN)
            .row("is(1, 3)", x -> x.is(1, 3), Edge.OUTSIDE)
            .row("compare(5, 0, 0)", x -> x.compare(5, 0, 0), Edge.UNKNOWN)
            .row("compare(0, 1, 3)", x -> x.compare(0, 1, 3), Edge.OUTSIDE)
            .row("many(32, 1)", x -> x.many(32, 1), Edge.OUTSIDE)
            .row("many(2, 1)", x -> x.many(2, 1), Edge.OUTSIDE)
            .row("join(0, 6, 0)", x -> x.join(0, 6, 0), Edge.UNKNOWN)
            .row("join(6, 0, 1)", x -> x.join(6, 0, 1), Edge.OUTSIDE)
            .row("not(6)", x -> x.not(6), Edge.UNKNOWN)
            .row("choose(0, 1, 6)", x -> x.choose(0, 1, 6), Edge.UNKNOWN)
            .row("condition(6, 0, 0)", x -> x.condition(6, 0, 0), Edge.UNKNOWN)
            .row("condition(0, 1, 3)", x -> x.condition(0, 1, 3), Edge.OUTSIDE)
            .row("quantify(6, 0, true)", x -> x.quantify(6, 0, true), Edge.UNKNOWN)
            .row("quantify(0, 5, false)", x -> x.quantify(0, 5, false), Edge.UNKNOWN)
            .row("substitute(0, 0, 6)", x -> x.substitute(0, 0, 6), Edge.UNKNOWN)
            .row("substitute(0, 1, 0)", x -> x.substitute(0, 1, 0), Edge.STATE)
            .row("exchange(0, 0, 5)", x -> x.exchange(0, 0, 5), Edge.UNKNOWN)
            .row("exchange(0, 0, 1)", x -> x.exchange(0, 0, 1), Edge.STATE)
            .changeNothing(RefusalTests::busy);
    }

    static void asked() {
        new RefusalTests()
            .row("end(-1)", x -> { x.end(-1); return 0; }, "throws.IllegalArgumentException")
            .row("end(8)", x -> { x.end(8); return 0; }, "throws.IllegalArgumentException")
            .row("end(7), all", x -> { x.end(7); return 0; }, "0")
            .row("runs(6)", x -> x.runs(6), Edge.UNKNOWN)
            .row("alike(0, 6)", x -> x.alike(0, 6), Edge.UNKNOWN)
            .row("depends(0, 5)", x -> x.depends(0, 5), Edge.UNKNOWN)
            .row("size(6)", x -> x.size(6), Edge.UNKNOWN)
            .row("ways(6)", x -> x.ways(6), Edge.UNKNOWN)
            .row("least(6)", x -> x.least(6), Edge.UNKNOWN)
            .row("least(5), there is none", x -> x.least(5), 0)
            .row("best(6)", x -> x.best(6), Edge.UNKNOWN)
            .row("best(5), there is none", x -> x.best(5), 0)
            .row("told(5)", x -> x.told(5), Edge.UNKNOWN)
            .row("told(4)", x -> x.told(4), Edge.STATE)
            .row("odds(6, -1)", x -> x.odds(6, -1), Edge.UNKNOWN)
            .row("odds(0, 6)", x -> x.odds(0, 6), Edge.UNKNOWN)
            .row("odds(0, 5)", x -> x.odds(0, 5), "throws.ArithmeticException")
            .row("weigh(6)", x -> x.weigh(6), Edge.UNKNOWN)
            .row("enter(6)", x -> x.enter(6), Edge.UNKNOWN)
            .row("down(4)", x -> x.down(4), Edge.OUTSIDE)
            .row("down(-1)", x -> x.down(-1), Edge.OUTSIDE)
            .row("print(6)", x -> x.print(6), Edge.UNKNOWN)
            .row("printed(-1)", x -> x.printed(-1), Edge.NONE)
            .row("place(5)", x -> x.place(5), Edge.UNKNOWN)
            .row("move(5, 0)", x -> x.move(5, 0), Edge.UNKNOWN)
            .row("move(0, 5)", x -> x.move(0, 5), Edge.OUTSIDE)
            .row("move(0, -1)", x -> x.move(0, -1), Edge.OUTSIDE)
            .changeNothing(RefusalTests::busy);
        new RefusalTests().row("down(0) at a leaf", x -> x.down(0), Edge.STATE).changeNothing(RefusalTests::busyAtLeaf);
        new RefusalTests().row("down(0) nowhere", x -> x.down(0), Edge.STATE).changeNothing(RefusalTests::busyNowhere);
    }

    static void noRoom() {
        new RefusalTests()
            .row("choice(2)", x -> x.choice(2), Edge.ROOM)
            .row("choice(6)", x -> x.choice(6), Edge.ROOM)
            .row("is", x -> x.is(0, 1), Edge.ROOM)
            .row("compare", x -> x.compare(0, 1, 0), Edge.ROOM)
            .row("many", x -> x.many(5, 1), Edge.ROOM)
            .row("join", x -> x.join(0, 0, 1), Edge.ROOM)
            .row("not", x -> x.not(0), Edge.ROOM)
            .row("choose", x -> x.choose(0, 1, 2), Edge.ROOM)
            .row("condition", x -> x.condition(0, 1, 2), Edge.ROOM)
            .row("quantify", x -> x.quantify(0, 1, true), Edge.ROOM)
            .row("substitute", x -> x.substitute(0, 0, 1), Edge.ROOM)
            .row("exchange", x -> x.exchange(0, 0, 2), Edge.ROOM)
            .row("feed", x -> x.feed(0, 0, 0, 0, 0), "throws.IllegalStateException")
            .row("end(401)", x -> { x.end(401); return 0; }, "throws.IllegalArgumentException")
            .changeNothing(RefusalTests::full);
    }

    /** The tape is used up; put back, all is as it was. */
    static void butTheTape() {
        for (String text : new String[] {"d:c^#2;", "d", "", "ab c", "@"}) {
            DiagramOdds x = busy();
            Check.due("named of '" + text + "'", Check.named(x, text), Edge.STATE);
            Check.due("the tape", Check.throwsOf(() -> x.end(1)), "IllegalArgumentException");
            Check.put(x, "d:c^#2;");
            Check.due("named of '" + text + "' leaves", Portrait.of(x, NAMES), Portrait.of(busy(), NAMES));
        }
    }

    static void first() {
        Check.term("Refusals are answers, of several the first one here: UNKNOWN (a number that a call takes names nothing), OUTSIDE (a number is not as said), STATE, ROOM.");
        int unknown = Edge.UNKNOWN, outside = Edge.OUTSIDE, state = Edge.STATE;
        Check.due("choice", full().choice(7), outside);
        Check.due("weight", full().weight(6, 9, 99), unknown);
        Check.due("rule", full().rule(6, 9, true), unknown);
        Check.due("is, of three", full().is(6, 9), unknown);
        Check.due("is, of two", full().is(5, 4), outside);
        Check.due("compare, of three", full().compare(0, 6, 3), unknown);
        Check.due("compare, of two", full().compare(0, 1, 3), outside);
        Check.due("many", full().many(64, 1), outside);
        Check.due("join, of three", full().join(6, 40, 0), unknown);
        Check.due("join, of two", full().join(6, 39, 0), outside);
        Check.due("not", full().not(40), unknown);
        Check.due("choose", full().choose(0, 40, 0), unknown);
        Check.due("condition, of three", full().condition(0, 6, 9), unknown);
        Check.due("condition, of two", full().condition(0, 5, 4), outside);
        Check.due("quantify", full().quantify(40, 0, true), unknown);
        Check.due("substitute, of three", full().substitute(0, 1, 40), unknown);
        Check.due("substitute, of two", full().substitute(0, 1, 39), state);
        Check.due("exchange, of three", full().exchange(40, 0, 1), unknown);
        Check.due("exchange, of two", full().exchange(39, 0, 1), state);
        Check.due("told", Edge.mixed().told(4), unknown);
        Check.due("move", full().move(6, 6), unknown);
        Check.due("odds", full().odds(40, 40), unknown);
    }

    public static void main(String[] args) {
        variables();
        functions();
        asked();
        noRoom();
        butTheTape();
        first();
        Check.finish("refusals");
    }
}
