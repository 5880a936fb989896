/** Promises 15 to 19: feed, end, read, fault, named. */
public final class TextTests {
    private TextTests() { }

    static void feed() {
        DiagramOdds x = Check.with(2);
        Check.due("15 twenty", x.feed(0x613a2330, 0x3b202020, 0x20202020, 0x20202020, 0x20202020), 20);
        Check.due("15 the highest byte first", x.read(), 1);
        Check.due("15 what was read", x.alike(0, x.is(0, 1)), 1);
        for (int i = 1; i <= 20; i++) Check.due("15 bytes", x.feed(0, 0, 0, 0, 0), 20 * i);
        Check.due("15 full", Check.throwsOf(() -> x.feed(0, 0, 0, 0, 0)), "IllegalStateException");
        x.end(381);
        Check.due("15 room for nineteen", Check.throwsOf(() -> x.feed(0, 0, 0, 0, 0)), "IllegalStateException");
        x.end(380);
        Check.due("15 room for twenty", x.feed(0, 0, 0, 0, 0), 400);
        Check.due("15 what is refused leaves the tape", x.read(), -1000);
        Check.due("15 reading uses it up", x.feed(0, 0, 0, 0, 0), 20);
        x.end(3);
        Check.due("15 from the end on", x.feed(0, 0, 0, 0, 0), 23);
        DiagramOdds y = Check.with(2);
        y.feed(0x20202020, 0x20202020, 0x20202020, 0x20202020, 0x2020ff20);
        Check.due("15 the last bytes, and one above 127", y.read(), -1018);
        Check.due("15 its kind", y.fault(), 1);
        y.feed(Check.word("a:fa", 0), Check.word("lse|", 0), Check.word("true", 0), Check.word(" & #", 0), Check.word("0;\n ", 0));
        Check.due("15 five words in their order", y.read(), 1);
    }

    static void end() {
        DiagramOdds x = Check.with(2);
        Check.put(x, "a:#0;b:#1;");
        Check.due("16 more than there are", Check.throwsOf(() -> x.end(11)), "IllegalArgumentException");
        Check.due("16 below none", Check.throwsOf(() -> x.end(-1)), "IllegalArgumentException");
        Check.due("16 all", Check.throwsOf(() -> x.end(10)), "nothing");
        x.end(5);
        Check.due("16 no way back", Check.throwsOf(() -> x.end(6)), "IllegalArgumentException");
        Check.due("16 the first five", x.read(), 1);
        Check.put(x, "a");
        x.end(0);
        Check.due("16 none", x.named(), DiagramOdds.STATE);
    }

    static void meaning(String formula, String row) {
        DiagramOdds x = Check.with(2, 2, 3);
        Check.due("17 " + formula, Check.read(x, "f:" + formula + ";"), 1);
        Check.due("17 no fault: " + formula, x.fault(), 0);
        Check.due("17 " + formula, Check.row(x, 0, 2, 2, 3), row);
    }

    static void meanings() {
        meaning("true", "111111111111");
        meaning("false", "000000000000");
        meaning("#0", "000000111111");
        meaning("#1=0", "111000111000");
        meaning("#2=2", "001001001001");
        meaning("# 002 = 01", "010010010010");
        meaning("!#0", "111111000000");
        meaning("!!#0", "000000111111");
        meaning("#0&#1", "000000000111");
        meaning("#0|#1", "000111111111");
        meaning("#0^#1", "000111111000");
        meaning("#0=>#1", "111111000111");
        meaning("#0<=>#1", "111000000111");
        meaning("#0|#1&#2=0", "000100111111");
        meaning("(#0|#1)&#2=0", "000100100100");
        meaning("#0|#1^#0", "000111111111");
        meaning("#0^#1&#0", "000000111000");
        meaning("!#0&#1", "000111000000");
        meaning("!(#0&#1)", "111111111000");
        meaning("#0|#1=>#0&#1", "111000000111");
        meaning("#0=>#1=>#0", "111111111111");
        meaning("(#0=>#1)=>#0", "000000111111");
        meaning("#2=0=>#0=>#1=>false", "111111111011");
        meaning("#0<=>#1<=>#2=0", "100011011100");
        meaning("#0<=>#1=>#0", "000111111111");
        meaning("#0=>#1<=>#0", "000000000111");
        meaning("some #0.#0&#1", "000111000111");
        meaning("all #0.#0|#1", "000111000111");
        meaning("all #2.#2=0", "000000000000");
        meaning("some #2.#2=2&#0", "000000111111");
        meaning("some #2.(#2=2&#0)", "000000111111");
        meaning("all #0,#1.(#0|#1|#2=1)", "010010010010");
        meaning("some #1 , #0 , #1 . (#0 & #1 & #2=1)", "010010010010");
        meaning("!some #0.#0=1&#0", "000000000000");
        meaning("all #2.some #0.(#0<=>#2=1)", "111111111111");
        meaning("some #0.all #2.(#0<=>#2=1)", "000000000000");
    }

    /** What is read left to right, and as long as can be. */
    static void tokens() {
        DiagramOdds x = Check.with(2, 2);
        Check.due("17 blanks", Check.read(x, "\n a\n:\n #\n0 &\n# 1 \n ;  \n"), 1);
        Check.due("17 a word that begins as another one", Check.read(x, "truex:#0;true1:#1;somea:#0;all0:#1;fals:#0;"), 5);
        Check.due("17 six bytes", Check.read(x, "abcde1:truex&true1;"), 1);
        Check.due("17 names", x.alike(6, 0), 1);
        Check.due("17 = and >", Check.read(x, "b:#0= >#1;"), -1006);
        Check.due("17 kind of >", x.fault(), 1);
        Check.due("17 < and =>", Check.read(x, "b:#0< =>#1;"), -1004);
        Check.due("17 kind of <", x.fault(), 1);
        Check.due("17 = and =>", Check.read(x, "b:#0==>#1;"), -1005);
        Check.due("17 kind of =>", x.fault(), 2);
        Check.due("17 no text at all", Check.read(x, ""), 0);
        Check.due("17 blanks alone", Check.read(x, " \n "), 0);
        Check.due("17 nothing on the tape any more", x.read(), 0);
        Check.due("17 seven functions are there", x.not(0), 7);
    }

    static void names() {
        DiagramOdds x = Check.with(2, 2);
        Check.due("17 two", Check.read(x, "a:#0;b:a&#1;"), 2);
        Check.due("17 known in the same text", x.runs(1), 1);
        Check.due("17 known in a later text", Check.read(x, "c:a^b;"), 1);
        Check.due("17 by its number", x.alike(2, x.join(5, 0, 1)), 1);
        Check.due("17 behind functions without a name", Check.read(x, "d:!c;"), 1);
        Check.due("17 its number", Check.named(x, "d"), 4);
        Check.due("17 a fault makes nothing", Check.read(x, "e:#0;g:#1;h:e&;"), -1014);
        Check.due("17 nor names", Check.named(x, "e"), DiagramOdds.STATE);
        Check.due("17 nor functions", x.is(0, 0), 5);
        Check.due("17 no name of what was dropped", Check.named(x, "e"), DiagramOdds.STATE);
        Check.due("17 the names can be given later", Check.read(x, "e:#1;"), 1);
        Check.due("17 and are of what was given", x.alike(Check.named(x, "e"), x.is(1, 1)), 1);
    }

    static void fault(String text, int place, int kind) {
        DiagramOdds x = Check.with(2, 4, 2);
        Check.read(x, "old:#0;");
        Check.due("17 " + text, Check.read(x, text), -1000 - place);
        Check.due("18 " + text, x.fault(), kind);
        Check.due("18 stays: " + text, x.fault(), kind);
        Check.due("17 makes nothing: " + text, x.not(0), 1);
        Check.due("17 uses the tape up: " + text, x.feed(0, 0, 0, 0, 0), 20);
        x.end(0);
        Check.due("17 then without one", x.read(), 0);
        Check.due("18 without one", x.fault(), 0);
    }

    static void faults() {
        // 1: no tokens
        fault("@", 0, 1);
        fault("  a:%;", 4, 1);
        fault("A:true;", 0, 1);
        fault("a\t:true;", 1, 1);
        fault("a:true;\0", 7, 1);
        fault("abcdefg:true;", 0, 1);
        fault("a:abcdefg;", 2, 1);
        fault("a:abc4567;", 2, 1);
        fault("a:#0001;", 3, 1);
        fault("a:#1=1000;", 5, 1);
        fault("a:#0a;", 3, 1);
        fault("a:#9a;", 3, 1);
        fault("a:#1=9a;", 5, 1);
        fault("a:#0A;", 4, 1);
        fault("a:#0<#2;", 4, 1);
        fault("a:#0<=#2;", 4, 1);
        fault("a:#0>#2;", 4, 1);
        fault("a:\u00e4;", 2, 1);
        fault("a_b:true;", 1, 1);
        // 2: what cannot come there
        fault("a", 1, 2);
        fault("a  ", 3, 2);
        fault("a:", 2, 2);
        fault("a:true", 6, 2);
        fault("a:true \n", 8, 2);
        fault("a:;", 2, 2);
        fault(":true;", 0, 2);
        fault("true:true;", 0, 2);
        fault("some:true;", 0, 2);
        fault(";", 0, 2);
        fault("a true;", 2, 2);
        fault("a:true;;", 7, 2);
        fault("a:true true;", 7, 2);
        fault("a:true old;", 7, 2);
        fault("a:(true;", 7, 2);
        fault("a:true);", 6, 2);
        fault("a:();", 3, 2);
        fault("a:!;", 3, 2);
        fault("a:&true;", 2, 2);
        fault("a:true&&true;", 7, 2);
        fault("a:true=>;", 8, 2);
        fault("a:true<=>=>true;", 9, 2);
        fault("a:true=1;", 6, 2);
        fault("a:old=1;", 5, 2);
        fault("a:1;", 2, 2);
        fault("a:#a;", 3, 2);
        fault("a:##0;", 3, 2);
        fault("a:#0=#2;", 5, 2);
        fault("a:#0=true;", 5, 2);
        fault("a:#0=1=1;", 6, 2);
        fault("a:#0 1;", 5, 2);
        fault("a:some 0.true;", 7, 2);
        fault("a:some #0 true;", 10, 2);
        fault("a:some #0=1.true;", 9, 2);
        fault("a:some #0,.true;", 10, 2);
        fault("a:some .true;", 7, 2);
        fault("a:all #0.;", 9, 2);
        fault("a:all #0.&true;", 9, 2);
        fault("a:true.", 6, 2);
        fault("a:true,", 6, 2);
        // 3: what is not known, or is given again
        fault("a:b;", 2, 3);
        fault("a:a;", 2, 3);
        fault("a:b;b:true;", 2, 3);
        fault("a:true;a:true;", 7, 3);
        fault("old:true;", 0, 3);
        fault("old true;", 0, 3);
        fault("old:@;", 0, 3);
        fault("a:#3;", 3, 3);
        fault("a:# 999;", 4, 3);
        fault("a:#3=9;", 3, 3);
        fault("a:some #3.true;", 8, 3);
        fault("a:all #0,#4.true;", 10, 3);
        fault("a:zz@;", 2, 3);
        fault("a:zz", 2, 3);
        // 4: no value, no truth
        fault("a:#1=4;", 5, 4);
        fault("a:#0=2;", 5, 4);
        fault("a:#0 = 999;", 7, 4);
        fault("a:#1;", 2, 4);
        fault("a:true& #1=>true;", 8, 4);
        fault("a:#1", 2, 4);
        fault("a:#1@", 2, 4);
        fault("a:#1 1;", 2, 4);
        fault("a:#1=@", 5, 1);
        fault("a:#1=;", 5, 2);
        fault("a:!#1;", 3, 4);
        // the first token from the left
        fault("a:zz&#9;", 2, 3);
        fault("a:#1=9&zz;", 5, 4);
        fault("a:true;b:(;c:@;", 10, 2);
    }

    static void depth() {
        DiagramOdds x = Check.with(2);
        Check.due("17 20 (", Check.read(x, "a:" + Check.repeat("(", 20) + "#0" + Check.repeat(")", 20) + ";"), 1);
        Check.due("17 21 (", Check.read(x, "b:" + Check.repeat("(", 21) + "#0" + Check.repeat(")", 21) + ";"), -1022);
        Check.due("18 21 (", x.fault(), 5);
        Check.due("17 20 !", Check.read(x, "b:" + Check.repeat("!", 20) + "#0;"), 1);
        Check.due("17 21 !", Check.read(x, "c:" + Check.repeat("!", 21) + "#0;"), -1022);
        Check.due("18 21 !", x.fault(), 5);
        Check.due("17 20 some", Check.read(x, "c:" + Check.repeat("some #0.", 20) + "#0;"), 1);
        Check.due("17 21 some", Check.read(x, "d:" + Check.repeat("some#0.", 20) + "all#0.#0;"), -1142);
        Check.due("18 21 some", x.fault(), 5);
        Check.due("17 of all kinds", Check.read(x, "d:" + Check.repeat("!(some#0.all#0.", 5) + "#0" + Check.repeat(")", 5) + ";"), 1);
        Check.due("17 of all kinds, one more", Check.read(x, "e:" + Check.repeat("!(some#0.all#0.", 5) + "!#0" + Check.repeat(")", 5) + ";"), -1077);
        Check.due("17 one beside another", Check.read(x, "e:" + Check.repeat("!", 20) + "#0&" + Check.repeat("(", 20) + "#0" + Check.repeat(")", 20) + "&" + Check.repeat("!", 20) + "#0;"), 1);
        Check.due("17 more of them behind", Check.read(x, "g:(" + Check.repeat("!", 19) + "#0&" + Check.repeat("!", 19) + "#0)&" + Check.repeat("!", 21) + "#0;"), -1068);
        Check.due("17 the 21st where none can come", Check.read(x, "g:" + Check.repeat("(", 20) + "#0("), -1024);
        Check.due("18 the 21st where none can come", x.fault(), 2);
        Check.due("17 many => are not deep", Check.read(x, "g:#0" + Check.repeat("=>#0", 90) + ";"), 1);
        Check.due("17 as they should be", x.runs(Check.named(x, "g")), 2);
        Check.due("17 many &", Check.read(x, "h:#0" + Check.repeat("&#0", 120) + ";"), 1);
        String nested = Check.repeat("true<=>(", 20);
        Check.due("17 rows held open", Check.read(x, "i:" + Check.repeat("#0<=>true=>false|false^true&(", 12) + "#0" + Check.repeat(")", 12) + ";"), 1);
        Check.due("17 what they are", x.alike(Check.named(x, "i"), 0), 1);
        Check.due("17 rows held open to the right", Check.read(x, "j:" + nested + "#0" + Check.repeat(")", 20) + ";"), 1);
        Check.due("17 what they are to the right", x.alike(Check.named(x, "j"), 0), 1);
    }

    /** As many rows are held open as a text can hold, each of another function. */
    static void rows() {
        DiagramOdds x = Check.with(2, 2, 3);
        Oracle o = new Oracle();
        for (int size : new int[] {2, 2, 3}) o.choice(size);
        String names = "a:#0;b:#1;c:#2=0;d:#2=1;e:#0^#2=2;g:!#1;";
        StringBuilder text = new StringBuilder("f:");
        java.util.Random random = new java.util.Random(5);
        for (int i = 0; i < 20; i++) {
            for (String operator : new String[] {"<=>", "=>", "|", "^", "&("}) text.append("abcdeg".charAt(random.nextInt(6))).append(operator);
        }
        text.append("a<=>b=>c|d^e&g").append(Check.repeat(")", 20)).append(';');
        for (String one : new String[] {names, text.toString()}) {
            o.tape = one;
            Check.due("17 rows held open", Check.read(x, one), o.read());
        }
        Check.due("17 what they come to", x.runs(6), o.runs(6));
        StringBuilder row = new StringBuilder();
        for (boolean so : o.functions.get(6)) row.append(so ? '1' : '0');
        Check.due("17 for which runs", Check.row(x, 6, 2, 2, 3), row.toString());
        openRows("a<=>b", "1001");
        openRows("t<=>a=>b", "1101");
        openRows("t<=>t=>a|b", "0111");
        openRows("t<=>t=>z|a^b", "0110");
        openRows("t<=>t=>z|z^a&b", "0001");
    }

    /** What stands around is as what stands inside, but holds five rows open at each depth. */
    private static void openRows(String inside, String row) {
        DiagramOdds x = Check.with(2, 2);
        Check.read(x, "a:#0;b:#1;t:true;z:false;");
        Check.due("17 around " + inside, Check.read(x, "f:" + Check.repeat("t<=>t=>z|z^t&(", 20) + inside + Check.repeat(")", 20) + ";"), 1);
        Check.due("17 runs around " + inside, Check.row(x, 4, 2, 2), row);
    }

    /** Bytes behind the end do not count, whatever they are; and the tape may be full of tokens. */
    static void edges() {
        DiagramOdds x = Check.with(2, 2, 2, 2, 2, 2, 2, 2, 2, 2);
        Check.read(x, "ab:#0;");
        Check.put(x, "abc");
        x.end(2);
        Check.due("19 a name cut", x.named(), 0);
        Check.put(x, "ab c");
        x.end(3);
        Check.due("19 a name behind the end", x.named(), 0);
        Check.put(x, "c:#01;");
        x.end(4);
        Check.due("17 a number cut", x.read(), -1004);
        Check.due("18 a number cut", x.fault(), 2);
        Check.put(x, "c:#0a");
        x.end(4);
        Check.due("17 a letter behind the end", x.read(), -1004);
        Check.due("18 a letter behind the end", x.fault(), 2);
        Check.put(x, "c:ab=>ab;");
        x.end(5);
        Check.due("17 => cut", x.read(), -1004);
        Check.put(x, "c:ab<=>ab;");
        x.end(6);
        Check.due("17 <=> cut", x.read(), -1004);
        Check.due("18 <=> cut", x.fault(), 1);
        Check.put(x, "c:ab   ");
        x.end(5);
        Check.due("17 blanks behind the end", x.read(), -1005);
        Check.due("17 400 tokens", Check.read(x, Check.repeat(";", 400)), -1000);
        Check.due("17 400 tokens behind a formula", Check.read(x, "c:#0" + Check.repeat("&#1", 131) + ";" + Check.repeat("(", 2)), -1398);
        Check.due("17 the end behind 400 tokens", Check.read(x, "c:#0" + Check.repeat("&#1", 132)), -1400);
        Check.due("18 the end behind 400 tokens", x.fault(), 2);
        Check.due("17 the end where a number should be", Check.read(x, "c:!!#0" + Check.repeat("&#1", 131) + "="), -1400);
        Check.due("17 the end where a variable should be", Check.read(x, "c:!!#0" + Check.repeat("&#1", 131) + "#"), -1399);
        Check.due("17 the end behind #", Check.read(x, "c:!#0" + Check.repeat("&#1", 131) + "&#"), -1400);
        Check.due("17 400 bytes", Check.read(x, "c:#0" + Check.repeat("&#1", 131) + ";  "), 1);
        Check.due("17 their end", Check.read(x, Check.repeat(" ", 396) + "d:ab"), -1400);
        Check.due("18 their end", x.fault(), 2);
    }

    static void room() {
        DiagramOdds x = Check.with(2);
        for (int i = 0; i < 38; i++) x.is(0, 1);
        Check.due("17 the 41st", Check.read(x, "a:#0;b:#0; c:zz;"), -1011);
        Check.due("18 the 41st", x.fault(), 5);
        Check.due("17 none was made", x.runs(38), DiagramOdds.UNKNOWN);
        Check.due("17 the 39th and 40th", Check.read(x, "a:#0;b:!a;"), 2);
        Check.due("17 a 41st", Check.read(x, "c"), -1000);
        Check.due("18 a 41st", x.fault(), 5);
        Check.due("17 a name again, and a 41st: the least", Check.read(x, "a:#0;"), -1000);
        Check.due("18 a name again, and a 41st: the least", x.fault(), 3);
        Check.due("17 nothing is no 41st", Check.read(x, " "), 0);
        Check.due("17 they are there", x.runs(39), 1);
    }

    static void named() {
        DiagramOdds x = Check.with(2);
        Check.read(x, "a:#0;abcdef:!#0;a1:#0;");
        Check.due("19 a", Check.named(x, "a"), 0);
        Check.due("19 six bytes, blanks around", Check.named(x, "\n abcdef \n"), 1);
        Check.due("19 a digit", Check.named(x, "a1"), 2);
        Check.due("19 not known", Check.named(x, "b"), DiagramOdds.STATE);
        Check.due("19 two", Check.named(x, "a a"), DiagramOdds.STATE);
        Check.due("19 none", Check.named(x, ""), DiagramOdds.STATE);
        Check.due("19 blanks", Check.named(x, "  "), DiagramOdds.STATE);
        Check.due("19 too long", Check.named(x, "abcdefg"), DiagramOdds.STATE);
        Check.due("19 a word that is none", Check.named(x, "true"), DiagramOdds.STATE);
        Check.due("19 more behind it", Check.named(x, "a;"), DiagramOdds.STATE);
        Check.due("19 a byte behind it", Check.named(x, "a\0"), DiagramOdds.STATE);
        Check.due("19 a number", Check.named(x, "1"), DiagramOdds.STATE);
        Check.due("19 in two parts", Check.named(x, "abc def"), DiagramOdds.STATE);
        Check.put(x, "a");
        x.named();
        Check.due("19 uses the tape up", x.feed(0, 0, 0, 0, 0), 20);
        Check.due("19 uses it up when it refuses, too", x.named(), DiagramOdds.STATE);
        Check.due("19 so that it is empty", x.feed(0, 0, 0, 0, 0), 20);
        x.read();
        Check.due("18 of the read", x.fault(), 1);
        Check.named(x, "a");
        Check.due("18 named is no read", x.fault(), 1);
        Check.due("19 in a later order", x.move(0, 0) >= 0 ? Check.named(x, "a") : -1, 0);
    }

    public static void main(String[] args) {
        feed();
        end();
        meanings();
        tokens();
        names();
        faults();
        depth();
        rows();
        edges();
        room();
        named();
        Check.finish("texts");
    }
}
