/** Names, depth and the faults of texts, at their bounds. */
public final class FaultEdgeTests {
    private FaultEdgeTests() { }

    private static void taken(String text) { TokenEdgeTests.taken(text); }

    private static void fault(String text, int place, int kind) { TokenEdgeTests.fault(text, place, kind); }

    private static void faultIn(DiagramOdds x, String text, int place, int kind) {
        Check.due(text, Check.read(x, text) + " " + x.fault(), -1000 - place + " " + kind);
    }

    static void names() {
        Check.term("A NAME is the function that the text, or a text before, gave it");
        DiagramOdds x = Check.with(2, 2);
        Check.due("two", Check.read(x, "a:#0;b:!a&#1;"), 2);
        Check.due("of the text", x.alike(1, x.join(5, x.is(1, 1), 0)), 1);
        Check.due("of a text before", Check.read(x, "c:b|a;"), 1);
        Check.due("is what it was", x.alike(Check.named(x, "c"), x.many(3, 1)), 1);
        x.choice(3);
        Check.due("with a variable that came later", Check.read(x, "d:a&#2=2;"), 1);
        Check.due("is what it is then", x.runs(Check.named(x, "d")), 2);
        x.move(0, 2);
        Check.due("in another order", Check.read(x, "e:a;"), 1);
        Check.due("is the same", x.alike(Check.named(x, "e"), 0), 1);
        Check.term("names are given once, and are known behind the ; of theirs.");
        fault("a:a;", 2, 3);
        fault("a:!(true|a);", 9, 3);
        fault("a:b;b:true;", 2, 3);
        taken("a:true;");
        Check.due("behind the ;", TokenEdgeTests.reading("a:true;b:a;"), "2 0");
        fault("a:true;b:c;c:a;", 9, 3);
        fault("a:true;a:true;", 7, 3);
        fault("old:#0;", 0, 3);
        fault("a:true;old:#0;", 7, 3);
        DiagramOdds y = Check.with(2);
        faultIn(y, "a:#0;b:@;", 7, 1);
        faultIn(y, "c:a;", 2, 3);
        Check.due("a name is free again behind a fault", Check.read(y, "a:!#0;"), 1);
        faultIn(y, "a:#0;", 0, 3);
        Check.due("and is what it was given", y.alike(Check.named(y, "a"), y.is(0, 0)), 1);
    }

    /** So many of one kind in one another, around what stands inside. */
    private static String nest(String open, int n, String inside, String close) {
        return Check.repeat(open, n) + inside + Check.repeat(close, n);
    }

    static void depth() {
        Check.term("( ! some all are 20 deep at most in one another.");
        String[] opens = {"(", "!", "some#0.", "all#0.", "all#0,#2."}, closes = {")", "", "", "", ""};
        for (int i = 0; i < opens.length; i++) {
            taken("a:" + nest(opens[i], 19, "#0", closes[i]) + ";");
            taken("a:" + nest(opens[i], 20, "#0", closes[i]) + ";");
            fault("a:" + nest(opens[i], 21, "#0", closes[i]) + ";", 2 + 20 * opens[i].length(), 5);
            for (String last : new String[] {"(#0)", "!#0", "some#0.#0", "all#0.#0"}) {
                taken("a:" + nest(opens[i], 19, last, closes[i]) + ";");
                fault("a:" + nest(opens[i], 20, last, closes[i]) + ";", 2 + 20 * opens[i].length(), 5);
            }
        }
        taken("a:" + nest("!(some#0.all#0.", 5, "#0", ")") + ";");
        fault("a:" + nest("!(some#0.all#0.", 5, "!#0", ")") + ";", 2 + 5 * 15, 5);
        // What stands beside one another is not in one another.
        taken("a:" + nest("(", 20, "#0", ")") + "&" + nest("!", 20, "#0", "") + "|" + nest("(", 20, "#0", ")") + ";");
        taken("a:(" + nest("!", 19, "#0", "") + "&" + nest("(", 19, "#0", ")") + ")^" + nest("!", 20, "#0", "") + ";");
        taken("a:" + Check.repeat("(#0)&", 60) + "#0;");
        taken("a:" + Check.repeat("!#0&", 60) + "#0;");
        taken("a:#0" + Check.repeat("=>#0", 90) + ";");
        fault("a:" + nest("(", 19, "!#0&!!#0", ")") + ";", 2 + 19 + 5, 5);
        fault("a:" + nest("(", 20, "#0&!#0", ")") + ";", 2 + 20 + 3, 5);
        Check.due("anew in each formula", TokenEdgeTests.reading("a:" + nest("!", 20, "#0", "") + ";b:" + nest("!", 20, "#0", "") + ";"), "2 0");
        DiagramOdds x = Check.with(2);
        Check.read(x, "a:" + nest("!", 19, "#0", "") + ";b:" + nest("!", 20, "#0", "") + ";");
        Check.due("an odd number of !", x.alike(0, x.is(0, 0)), 1);
        Check.due("an even number of !", x.alike(1, x.is(0, 1)), 1);
    }

    static void place() {
        Check.term("A FAULT has a KIND and a PLACE, its token's first byte (the end: how many bytes there are), of the first token from the left; of one token the least");
        fault("  @", 2, 1);
        fault("a:true&abcdefgh;", 7, 1);
        fault("a:true<=>yyyyyy;", 9, 3);
        fault("a:true =>=>true;", 9, 2);
        fault("a:true all #0.true;", 7, 2);
        fault("a:#1= 123;", 6, 4);
        fault("a:# 123;", 4, 3);
        fault("a:true& # 1;", 8, 4);
        // the end
        fault("a", 1, 2);
        fault("a \n ", 4, 2);
        fault("a:#0", 4, 2);
        fault("a:#0" + Check.repeat(" ", 396), 400, 2);
        // the first from the left
        fault("@:@;", 0, 1);
        fault("a:b&@;", 2, 3);
        fault("a:#9&@;", 3, 3);
        fault("a:#1=9&@;", 5, 4);
        fault("a:#1&@;", 2, 4);
        fault("a:" + Check.repeat("!", 21) + "@;", 22, 5);
        fault("a:) @;", 2, 2);
        fault("old:@;", 0, 3);
        fault("a:#1 @;", 2, 4);
        fault("a:#1", 2, 4);
        fault("a:#1 #1;", 2, 4);
        fault("a:#9=9;", 3, 3);
        fault("a:#9", 3, 3);
        fault("a:b", 2, 3);
        fault("a:b b;", 2, 3);
        fault("a:@;b:(;", 2, 1);
        fault("a:true;b:@;c:b;", 9, 1);
        // of one token the least
        fault("a:true abcdefg;", 7, 1);
        fault("a:true 1000;", 7, 1);
        fault("a:true zz;", 7, 2);
        fault("a:true #9;", 7, 2);
        fault("a:some #0 #1;", 10, 2);
        fault("a:" + Check.repeat("!", 20) + "true!true;", 26, 2);
        fault("a:" + Check.repeat("!", 20) + "true some#9.true;", 27, 2);
    }

    static void noToken() {
        Check.term("1 it is no token (also a NAME, or NUMBER, that is too long, or a letter behind a NUMBER)");
        fault("?", 0, 1);
        fault("a:true?;", 6, 1);
        fault("a:true;?", 7, 1);
        fault("a:true;\0", 7, 1);
        fault("a?:true;", 1, 1);
        fault("abcdefg:true;", 0, 1);
        fault("a:!abcdefg;", 3, 1);
        fault("a:#0001;", 3, 1);
        fault("a:#1=0001;", 5, 1);
        fault("1000:true;", 0, 1);
        fault("a:#0a;", 3, 1);
        fault("a:#0true;", 3, 1);
        fault("a:#000z;", 3, 1);
        fault("a:#1=0a;", 5, 1);
        fault("a:some #0a.true;", 8, 1);
        fault("0a:true;", 0, 1);
        fault("a:#0 a;", 5, 2);
        fault("a:#0A;", 4, 1);
    }

    static void notThere() {
        Check.term("2 it cannot come there");
        for (String token : new String[] {"#0", "&", "|", "^", "!", "(", ")", "=", ":", ";", ".", ",", "=>", "<=>", "true", "some", "7"}) {
            fault(token, 0, 2);
            if (!token.equals(":")) fault("a" + (token.matches("[a-z0-9]+") ? " " : "") + token, token.matches("[a-z0-9]+") ? 2 : 1, 2);
        }
        for (String token : new String[] {"&", "|", "^", ")", "=", ":", ";", ".", ",", "=>", "<=>", "7"}) {
            fault("a:" + token, 2, 2);
            fault("a:!" + token, 3, 2);
            fault("a:(" + token, 3, 2);
            fault("a:#0&" + token, 5, 2);
            fault("a:all#0." + token, 8, 2);
            if (!token.equals("7")) fault("a:#" + token, 3, 2);
            if (!token.equals("7")) fault("a:#1=" + token, 5, 2);
        }
        for (String token : new String[] {"#0", "!", "(", ":", ".", ",", "true", "false", "some", "all", "old", "7"}) fault("a:true " + token, 7, 2);
        for (String token : new String[] {"#0", "!", "(", ")", "=", ":", ";", "&", "=>", "true", "old"}) fault("a:some#0 " + token, 9, 2);
        fault("a:true);", 6, 2);
        fault("a:(true));", 8, 2);
        fault("a:(true;", 7, 2);
    }

    static void notKnown() {
        Check.term("3 a NAME that is not known, or is given a second time (also one that a text before gave), a variable that is not there (at its NUMBER)");
        fault("a:b;", 2, 3);
        fault("a:!b;", 3, 3);
        fault("a:olda;", 2, 3);
        fault("a:ol;", 2, 3);
        fault("a:true;a:true;", 7, 3);
        fault("a:true;b:true;a:true;", 14, 3);
        fault("old:true;", 0, 3);
        fault("  old:true;", 2, 3);
        taken("a:#2;");
        fault("a:#3;", 3, 3);
        fault("a:#3=0;", 3, 3);
        fault("a:# 3;", 4, 3);
        taken("a:some#2.true;");
        fault("a:some#3.true;", 7, 3);
        fault("a:some#0,#3.true;", 10, 3);
        DiagramOdds x = new DiagramOdds();
        faultIn(x, "a:#0;", 3, 3);
        x.choice(2);
        Check.due("it is there now", Check.read(x, "a:#0;"), 1);
        faultIn(x, "b:#1;", 3, 3);
        faultIn(Edge.tenTruths(), "b:#10;", 3, 3);
        DiagramOdds y = Edge.mixed();
        faultIn(y, "a:b;", 2, 3);
        y.not(0);
        faultIn(y, "a:b;", 2, 3);
    }

    static void noValue() {
        Check.term("4 a NUMBER behind = that is no value of it, a variable alone that is no truth (at its #)");
        for (int values = 2; values <= 6; values++) {
            DiagramOdds x = Check.with(2, values);
            Check.due("the last value", Check.read(x, "a:#1=" + (values - 1) + ";"), 1);
            faultIn(x, "b:#1=" + values + ";", 5, 4);
            faultIn(x, "b:#1= 999;", 6, 4);
            if (values > 2) faultIn(x, "b: # 1;", 3, 4);
            else Check.due("a truth alone", Check.read(x, "b: # 1;"), 1);
        }
        fault("a:#0=2;", 5, 4);
        fault("a:!#1;", 3, 4);
        fault("a:(#1);", 3, 4);
        fault("a:#1&true;", 2, 4);
        fault("a:#1=>true;", 2, 4);
        fault("a:#0&#1<=>true;", 5, 4);
        taken("a:some#1.true;");
        taken("a:all#1,#1.#1=3;");
    }

    static void tooMuch() {
        Check.term("5 the 21st ( ! some all; a name's function is the 41st (at the NAME).");
        fault("a:" + Check.repeat("(", 21), 22, 5);
        fault("a:" + Check.repeat("(", 20), 22, 2);
        fault("a: " + Check.repeat("! ", 21) + ";", 3 + 40, 5);
        fault("a:" + Check.repeat("some#0.", 21), 2 + 140, 5);
        fault("a:" + Check.repeat("!", 20) + "some @", 22, 5);
        DiagramOdds x = Check.with(2);
        for (int i = 0; i < 39; i++) x.is(0, 1);
        faultIn(x, "a:#0; b:#0;", 6, 5);
        Check.due("the 40th was not made with it", x.runs(39), Edge.UNKNOWN);
        Check.due("the 40th", Check.read(x, "a:#0;"), 1);
        faultIn(x, "b:#0;", 0, 5);
        faultIn(x, "  b:#0;", 2, 5);
        faultIn(x, "b:@;", 0, 5);
        faultIn(x, "a:#0;", 0, 3);
        faultIn(x, "abcdefg:#0;", 0, 1);
        faultIn(x, "true:#0;", 0, 2);
        Check.due("none is no 41st", Check.read(x, " \n"), 0);
        faultIn(Edge.mixedFull(), "b:#0;", 0, 5);
        DiagramOdds y = Check.with(2);
        faultIn(y, TextEdgeTests.definitions(41), 240, 5);
        Check.due("none of 41", y.runs(0), Edge.UNKNOWN);
        Check.due("40 at once", Check.read(y, TextEdgeTests.definitions(40)), 40);
    }

    static void makesNothing() {
        Check.term("What has a fault makes nothing.");
        String[] texts = {"b:#0;c:b;@", "b:#0;c:b;;", "b:#0;c:b;b:#0;", "b:#0;c:#1;", "b:#0;c:" + Check.repeat("!", 21) + "#0;", "b:#0;c:#0"};
        for (String text : texts) {
            DiagramOdds x = Check.with(2, 3);
            Check.read(x, "a:#0;");
            x.enter(0);
            Check.due(text, Check.read(x, text) <= -1000 ? 1 : 0, 1);
            Check.due("no function", x.runs(1), Edge.UNKNOWN);
            Check.due("no name", Check.named(x, "b"), Edge.STATE);
            Check.due("nor the second", Check.named(x, "c"), Edge.STATE);
            Check.due("one stands where one stood", x.here(), 0);
            Check.due("no node", x.size(Edge.NONE), 1);
            Check.due("the next number", x.is(1, 0), 1);
            Check.due("is what it is", x.runs(1), 2);
            Check.due("has not the name", Check.named(x, "b"), Edge.STATE);
            Check.due("which can be given", Check.read(x, "b:!#0;"), 1);
            Check.due("and is what it was given", x.alike(Check.named(x, "b"), x.not(0)), 1);
        }
    }

    public static void main(String[] args) {
        names();
        depth();
        place();
        noToken();
        notThere();
        notKnown();
        noValue();
        tooMuch();
        makesNothing();
        Check.finish("faults at their bounds");
    }
}
