/** Tokens and the grammar of texts, at their bounds. */
public final class TokenEdgeTests {
    private static final String SYMBOLS = "#&|^!()=:;.,";

    private TokenEdgeTests() { }

    /** The answer of read() and the kind of the fault, as "answer kind", with variables of 2, 4 and 2 values and a function 'old'. */
    static String reading(String text) {
        DiagramOdds x = Check.with(2, 4, 2);
        Check.read(x, "old:#0;");
        return Check.read(x, text) + " " + x.fault();
    }

    static void taken(String text) { Check.due(text, reading(text), "1 0"); }

    static void fault(String text, int place, int kind) { Check.due(text, reading(text), -1000 - place + " " + kind); }

    private static boolean isWord(int one) { return one >= 'a' && one <= 'z' || one >= '0' && one <= '9'; }

    /** Each byte behind a name, where only blanks, what makes it longer, and : can be. */
    static void blanks() {
        Check.term("TOKENS, between BLANKS (32, 10; none or more)");
        for (int one = 0; one < 256; one++) {
            String text = "a" + (char) one + ":true;";
            if (one == 32 || one == 10 || isWord(one)) taken(text);
            else if (one == ':') fault(text, 2, 2);
            else fault(text, 1, SYMBOLS.indexOf(one) >= 0 ? 2 : 1);
        }
        taken("a:some#0,#1.!(true&#1=3|old^#0=>false<=>all#2.#2);");
        taken(" a : some # 0 , # 1 . ! ( true & # 1 = 3 | old ^ # 0 => false <=> all # 2 . # 2 ) ; ");
        taken("\n\na\n: \n#\n0\n ;\n\n");
        taken(Check.repeat(" ", 390) + "a:true;" + "\n\n\n");
        fault("a:# 0 0;", 6, 2);
        fault("a:ol d;", 2, 3);
        fault("a:tr ue;", 2, 3);
        fault("a:#0= >#2;", 6, 1);
        fault("a:#0< =>#2;", 4, 1);
        fault("a:#0<= >#2;", 4, 1);
    }

    /** Each byte where a name begins. */
    static void names() {
        Check.term("NAMES (a letter a .. z, then letters or digits, 6 bytes at most; 'true', 'false', 'some', 'all' are none)");
        for (int one = 33; one < 256; one++) {
            String text = (char) one + ":true;";
            if (one >= 'a' && one <= 'z') taken(text);
            else fault(text, 0, isWord(one) || SYMBOLS.indexOf(one) >= 0 ? 2 : 1);
        }
        String[] names = {"a", "z", "a0", "z9", "abcde", "abcdef", "zzzzzz", "a12345", "z98765", "a1b2c3"};
        for (String name : names) taken(name + ":true;");
        fault("abcdefg:true;", 0, 1);
        fault("zzzzzzz:true;", 0, 1);
        fault("a123456:true;", 0, 1);
        fault(" a:abcdefg;", 3, 1);
        fault("a:oldolda;", 2, 1);
        fault(Check.repeat("a", 400), 0, 1);
        fault("aB:true;", 1, 1);
        fault("a_:true;", 1, 1);
        fault("a1", 2, 2);
        for (String word : new String[] {"true", "false", "some", "all"}) {
            fault(word + ":true;", 0, 2);
            taken(word + "x:true;");
            taken(word + "0:true;");
            taken(word.substring(1) + ":true;");
            taken(word.substring(0, word.length() - 1) + ":true;");
            taken("x" + word + ":true;");
        }
        fault("trueee0:true;", 0, 1);
        fault("a:alll#0.#0;", 2, 3);
        DiagramOdds x = Check.with(2);
        Check.due("names that begin alike", Check.read(x, "a:true;aa:false;aaaaa:#0;aaaaaa:!#0;a0:#0;a00:!#0;"), 6);
        Check.due("are not one", Check.named(x, "aaaaa") * 10 + Check.named(x, "aaaaaa"), 23);
    }

    static void numbers() {
        Check.term("NUMBERS (one to three digits)");
        for (String zeros : new String[] {"", "0", "00"}) {
            taken("a:#" + zeros + "0;");
            taken("a:#" + zeros + "2;");
            taken("a:#1=" + zeros + "0;");
            taken("a:#1=" + zeros + "3;");
            taken("a:some #" + zeros + "1.true;");
        }
        fault("a:#0000;", 3, 1);
        fault("a:#1=0003;", 5, 1);
        fault("a:some #0001.true;", 8, 1);
        fault("a:#" + Check.repeat("0", 300) + ";", 3, 1);
        fault("a:#;", 3, 2);
        fault("a:#1=;", 5, 2);
        fault("a:#010;", 3, 3);
        fault("a:#999;", 3, 3);
        fault("a:#1=010;", 5, 4);
        fault("a:#1=999;", 5, 4);
        fault("a:#4294967296;", 3, 1);
        fault("a:#-0;", 3, 1);
        fault("a:#/;", 3, 1);
        fault("a:#0/;", 4, 1);
        fault("a:#0:;", 4, 2);
        DiagramOdds x = Edge.tenTruths();
        Check.due("the tenth variable", Check.read(x, "a:#9;b:#09;c:#009;"), 3);
        Check.due("is the tenth", x.alike(0, x.is(9, 1)) + x.alike(1, 0) + x.alike(2, 0), 3);
        Check.due("an eleventh is not there", Check.read(x, "d:#10;"), -1003);
    }

    static void symbols() {
        Check.term("# & | ^ ! ( ) = : ; . , and, read as long as can be, => <=> .");
        taken("a:#0&#2;");
        taken("a:#0|#2;");
        taken("a:#0^#2;");
        taken("a:!#0;");
        taken("a:(#0);");
        taken("a:#0=1;");
        taken("a:some#0,#2.#0;");
        taken("a:#0=>#2;");
        taken("a:#0<=>#2;");
        fault("a:#0>#2;", 4, 1);
        fault("a:#0<#2;", 4, 1);
        fault("a:#0<=#2;", 4, 1);
        fault("a:#0<>#2;", 4, 1);
        fault("a:#0=>>#2;", 6, 1);
        fault("a:#0<=>>#2;", 7, 1);
        fault("a:#0<<=>#2;", 4, 1);
        fault("a:#0==>#2;", 5, 2);
        fault("a:#0=>=>#2;", 6, 2);
        fault("a:#0=<=>#2;", 5, 2);
        fault("a:#0<=>=>#2;", 7, 2);
        fault("a:#0=>1;", 6, 2);
        fault("a:#0<", 4, 1);
        fault("a:#0<=", 4, 1);
        fault("a:#0=", 5, 2);
        fault("a:#0=>", 6, 2);
        fault("a:#0<=>", 7, 2);
        fault("a:#0&&#2;", 5, 2);
        fault("a:#0~#2;", 4, 1);
        fault("a:\"#0\";", 2, 1);
        fault("a:[#0];", 2, 1);
        fault("a:{#0};", 2, 1);
        fault("a:'true';", 2, 1);
    }

    /** What a formula is, by what calls make. */
    static void means(String formula, Edge.Ask made) {
        DiagramOdds x = Check.with(2, 2, 2, 3);
        Check.due("read " + formula, Check.read(x, "a:#0;b:#1;c:#2;f:" + formula + ";"), 4);
        Check.due(formula, x.alike(3, (int) made.of(x)), 1);
    }

    static void grammar() {
        Check.term("(What stands in quotes stands as it is; { } means any number of times, [ ] once or not.)");
        Check.term("text: { NAME ':' formula ';' }");
        Check.due("not once", reading(""), "0 0");
        Check.due("once", reading("d:#0;"), "1 0");
        Check.due("39 times", reading(TextEdgeTests.definitions(39)), "39 0");
        for (String text : new String[] {"d", "d:", "d:#0"}) fault(text, text.length(), 2);
        fault("d:#0;e", 6, 2);
        fault(":#0;", 0, 2);
        fault("d#0;", 1, 2);
        fault("d:;", 2, 2);
        fault("d:#0;;", 5, 2);
        fault("d:#0 e:#0;", 5, 2);
        Check.term("formula: side { '<=>' side }");
        means("a<=>b<=>c", x -> x.join(4, x.join(4, 0, 1), 2));
        means("a=>b<=>b=>a", x -> x.join(4, x.join(3, 0, 1), x.join(3, 1, 0)));
        means("a" + Check.repeat("<=>b", 80), x -> 0);
        means("a" + Check.repeat("<=>b", 81), x -> x.join(4, 0, 1));
        Check.term("side: either [ '=>' side ]");
        means("a=>b", x -> x.join(3, 0, 1));
        means("a=>b=>c", x -> x.join(3, 0, x.join(3, 1, 2)));
        means("(a=>b)=>c", x -> x.join(3, x.join(3, 0, 1), 2));
        means("a=>a=>a=>b=>c", x -> x.join(3, 0, x.join(3, 1, 2)));
        means("true" + Check.repeat("=>a", 100) + "=>b", x -> x.join(3, 0, 1));
        means("a|b=>b|c", x -> x.join(3, x.join(1, 0, 1), x.join(1, 1, 2)));
        Check.term("either: odd { '|' odd }");
        means("a|b|c", x -> x.many(7, 1));
        means("a^b|b^c", x -> x.join(1, x.join(2, 0, 1), x.join(2, 1, 2)));
        Check.term("odd: both { '^' both }");
        means("a^b^c", x -> x.join(2, x.join(2, 0, 1), 2));
        means("a&b^b&c", x -> x.join(2, x.join(0, 0, 1), x.join(0, 1, 2)));
        means("a" + Check.repeat("^b", 100), x -> 0);
        Check.term("both: one { '&' one }");
        means("a&b&c", x -> x.many(7, 3));
        means("!a&!b", x -> x.not(x.many(3, 1)));
    }

    static void ones() {
        Check.term("one: '!' one | '(' formula ')' | 'true' | 'false' | NAME | variable [ '=' NUMBER ] | ( 'some' | 'all' ) variable { ',' variable } '.' one");
        means("!a", x -> x.not(0));
        means("!!a", x -> 0);
        means("(a<=>b)&c", x -> x.join(0, x.join(4, 0, 1), 2));
        means("((a))", x -> 0);
        means("true", x -> x.many(0, 0));
        means("false", x -> x.many(0, 1));
        means("c", x -> 2);
        means("#2", x -> 2);
        means("#2=0", x -> x.not(2));
        means("some #3.#3=2&a", x -> 0);
        means("some #3.(#3=2&a)", x -> 0);
        means("all #0.a|b", x -> 1);
        means("all #0.(a|b)", x -> 1);
        means("all #0.!a|b", x -> 1);
        means("!some #0.a&b", x -> x.many(0, 1));
        means("some #0,#1,#2.(a&b&c)", x -> x.many(0, 0));
        means("all #0 , #0 . (a | b)", x -> 1);
        for (String text : new String[] {"!", "(", "#", "#0=", "some", "some#0", "some#0,", "some#0.", "all#0,#2."}) fault("d:" + text, 2 + text.length(), 2);
        fault("d:();", 3, 2);
        fault("d:(#0;", 5, 2);
        fault("d:#0);", 4, 2);
        fault("d:some.#0;", 6, 2);
        fault("d:some #0#2.#0;", 9, 2);
        fault("d:some #0,,#2.#0;", 10, 2);
        fault("d:some #0=1.#0;", 9, 2);
        fault("d:some old.#0;", 7, 2);
        fault("d:#0=1=1;", 6, 2);
        fault("d:old=1;", 5, 2);
        fault("d:!#0!;", 5, 2);
        Check.term("variable: '#' NUMBER");
        fault("d:0;", 2, 2);
        fault("d:##0;", 3, 2);
        fault("d:#old;", 3, 2);
        fault("d:some 0.#0;", 7, 2);
    }

    static void meaning() {
        Check.term("^ is so if one alone of both is, <=> if both are alike (each from the left), => if the first one is not, or the second one is.");
        String[] operators = {"^", "<=>", "=>"};
        String[] rows = {"0110", "1001", "1101"};
        for (int i = 0; i < 3; i++) {
            for (int run = 0; run < 4; run++) {
                boolean so = rows[i].charAt(run) == '1';
                means((run > 1) + operators[i] + (run % 2 == 1), x -> x.many(0, so ? 0 : 1));
            }
        }
        means("true=>true=>false", x -> x.many(0, 1));
        means("false=>false=>false", x -> x.many(0, 0));
        means("(false=>false)=>false", x -> x.many(0, 1));
        Check.term("A variable alone is a truth that is 1; with = it has that value.");
        means("#0", x -> x.is(0, 1));
        means("#0=1", x -> x.is(0, 1));
        means("#0=0", x -> x.is(0, 0));
        for (int value = 0; value < 3; value++) {
            int wanted = value;
            means("#3=" + value, x -> x.is(3, wanted));
        }
        Check.term("'some' a variable: for some value of it; 'all': for all (of several variables one behind the other).");
        for (int value = 0; value < 3; value++) {
            means("some#3.#3=" + value, x -> x.many(0, 0));
            means("all#3.#3=" + value, x -> x.many(0, 1));
            means("all#3.!#3=" + value, x -> x.many(0, 1));
        }
        means("some#0,#3.(a&b&#3=1)", x -> 1);
        means("all#0,#3.(a&#3=1|b)", x -> 1);
        means("some#1.a", x -> 0);
        means("all#1.a", x -> 0);
        means("some#0.all#1.(a<=>b)", x -> x.many(0, 1));
        means("all#0.some#1.(a<=>b)", x -> x.many(0, 0));
        means("some#0,#1,#2,#3.(a&b&c&#3=2)", x -> x.many(0, 0));
        means("all#3,#2,#1,#0.(a|b|c|#3=2)", x -> x.many(0, 1));
    }

    public static void main(String[] args) {
        blanks();
        names();
        numbers();
        symbols();
        grammar();
        ones();
        meaning();
        Check.finish("tokens at their bounds");
    }
}
