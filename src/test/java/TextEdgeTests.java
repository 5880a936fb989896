/** Promises 15 to 19 and the tape, at their bounds. */
public final class TextEdgeTests {
    private static final int BLANKS = 0x20202020;

    private TextEdgeTests() { }

    /** Feeds a text as it is, twenty bytes at a time; what is missing at the end is blank. */
    private static int feed(DiagramOdds x, String text) {
        int bytes = 0;
        for (int i = 0; i < text.length(); i += 20) {
            String part = (text.substring(i) + Check.repeat(" ", 20)).substring(0, 20);
            bytes = x.feed(Check.word(part, 0), Check.word(part, 4), Check.word(part, 8), Check.word(part, 12), Check.word(part, 16));
        }
        return bytes;
    }

    private static DiagramOdds withTape(int bytes) {
        DiagramOdds x = Check.with(2);
        for (int i = 0; i < bytes; i += 20) x.feed(BLANKS, BLANKS, BLANKS, BLANKS, BLANKS);
        x.end(bytes);
        return x;
    }

    private static String endOf(DiagramOdds x, int n) { return Check.throwsOf(() -> x.end(n)); }

    private static String feedOf(DiagramOdds x) { return Check.throwsOf(() -> x.feed(0, 0, 0, 0, 0)); }

    static void tape() {
        Check.term("The tape has at most 400 bytes; what reads it uses it up.");
        DiagramOdds x = withTape(400);
        Check.due("400 are there", endOf(x, 400), "nothing");
        Check.due("and are read", x.read(), 0);
        Check.due("used up", endOf(x, 1), "IllegalArgumentException");
        Check.due("from the beginning on", x.feed(0, 0, 0, 0, 0), 20);
        Check.due("by read with a fault", x.read(), -1000);
        Check.due("used up with a fault", x.feed(0, 0, 0, 0, 0), 20);
        Check.due("by named, refused", x.named(), Edge.STATE);
        Check.due("used up when refused", x.feed(0, 0, 0, 0, 0), 20);
        Check.read(x, "");
        Check.read(x, "a:#0;");
        Check.due("by named", Check.named(x, "a"), 0);
        Check.due("used up by named", endOf(x, 1), "IllegalArgumentException");
        Check.due("nothing is read again", x.read(), 0);
        Check.due("nor named again", x.named(), Edge.STATE);
        Check.put(x, "@");
        x.fault();
        x.runs(0);
        x.seek();
        Check.due("other calls do not use it up", x.read(), -1000);
    }

    static void feeding() {
        Check.promise(15, "Twenty bytes come onto the tape, those of a first, the highest byte of each first: how many it has.");
        for (int at = 0; at < 20; at++) {
            char[] row = Check.repeat(" ", 20).toCharArray();
            row[at] = '@';
            DiagramOdds x = new DiagramOdds();
            Check.due("bytes", feed(x, new String(row)), 20);
            Check.due("the byte at " + at, x.read(), -1000 - at);
        }
        for (int one = 128; one < 256; one++) {
            DiagramOdds x = new DiagramOdds();
            x.feed(one << 24 | one << 16 | one << 8 | one, -1, BLANKS, BLANKS, BLANKS);
            Check.due("byte " + one + " as it is", x.read(), -1000);
            Check.due("which is no token", x.fault(), 1);
        }
        DiagramOdds x = new DiagramOdds();
        for (int bytes = 20; bytes <= 400; bytes += 20) Check.due("how many", x.feed(BLANKS, BLANKS, BLANKS, BLANKS, BLANKS), bytes);
        DiagramOdds y = Check.with(2);
        feed(y, "a:#0|#0|#0|#0|#0|#0|#0|#0|#0;");
        Check.due("one behind the other", y.read(), 1);
        Check.due("from where the end was set", withTape(7).feed(0, 0, 0, 0, 0), 27);
        Check.due("from the beginning, with an end there", withTape(0).feed(0, 0, 0, 0, 0), 20);
    }

    static void feedingThrows() {
        Check.promise(15, "IllegalStateException when there is no room for twenty.");
        Check.due("at 380", withTape(380).feed(0, 0, 0, 0, 0), 400);
        for (int bytes : new int[] {381, 390, 399, 400}) {
            Check.due("at " + bytes, feedOf(withTape(bytes)), "IllegalStateException");
        }
        DiagramOdds x = withTape(380);
        feed(x, "@");
        x.end(385);
        Check.due("at 385", feedOf(x), "IllegalStateException");
        Check.due("no byte came", endOf(x, 386), "IllegalArgumentException");
        Check.due("what is there stays", x.read(), -1380);
        Check.due("and there is room again", feedOf(x), "nothing");
        DiagramOdds y = withTape(400);
        y.end(380);
        Check.due("room by end", y.feed(0, 0, 0, 0, 0), 400);
        DiagramOdds z = withTape(400);
        z.named();
        Check.due("room by named", z.feed(0, 0, 0, 0, 0), 20);
    }

    static void end() {
        Check.promise(16, "Only the first n bytes of the tape count.");
        DiagramOdds x = Check.with(2);
        feed(x, "a:#0;b:#0;");
        x.end(5);
        Check.due("the first five", x.read(), 1);
        feed(x, "b:#0;");
        x.end(0);
        Check.due("none", x.read(), 0);
        feed(x, "b:#0@");
        x.end(4);
        Check.due("without the last", x.read(), -1004);
        feed(x, "b:#0" + Check.repeat(" ", 16));
        x.end(20);
        Check.due("all", x.read(), -1020);
        feed(x, "b: @@");
        x.end(3);
        feed(x, "#0;");
        Check.due("what came behind the end", x.read(), 1);
        DiagramOdds full = withTape(400);
        full.end(400);
        Check.due("all of 400", feedOf(full), "IllegalStateException");
    }

    static void endThrows() {
        Check.promise(16, "IllegalArgumentException when n is not 0 .. what there are.");
        for (int bytes : new int[] {0, 1, 20, 399, 400}) {
            for (int n : new int[] {Integer.MIN_VALUE, -1, bytes + 1, Integer.MAX_VALUE}) {
                Check.due(n + " of " + bytes, endOf(withTape(bytes), n), "IllegalArgumentException");
            }
            for (int n : new int[] {0, bytes}) Check.due(n + " of " + bytes, endOf(withTape(bytes), n), "nothing");
        }
        DiagramOdds x = withTape(20);
        x.end(10);
        Check.due("no way back", endOf(x, 11), "IllegalArgumentException");
        Check.due("what throws leaves the tape", x.feed(0, 0, 0, 0, 0), 30);
        endOf(x, -1);
        Check.due("what throws leaves the tape, below", x.feed(0, 0, 0, 0, 0), 50);
    }

    static String definitions(int n) {
        StringBuilder text = new StringBuilder();
        for (int i = 0; i < n; i++) text.append(LimitTests.name(i)).append(":#0;");
        return text.toString();
    }

    static void read() {
        Check.promise(17, "The tape is read as a text: how many functions it gave; -1000 less the PLACE of its FAULT.");
        Check.due("nothing", Check.with(2).read(), 0);
        Check.due("blanks", withTape(400).read(), 0);
        for (int n : new int[] {1, 2, 39, 40}) Check.due(n + " functions", Check.read(Check.with(2), definitions(n)), n);
        DiagramOdds x = Check.with(2);
        Check.due("41 functions", Check.read(x, definitions(41)), -1000 - 6 * 40);
        Check.due("at the first byte", Check.read(x, "@"), -1000);
        Check.due("at the last of 400", Check.read(x, Check.repeat(" ", 399) + "@"), -1399);
        Check.due("at the end of 400", Check.read(x, Check.repeat(" ", 396) + "a:#0"), -1400);
        Check.due("with no variables", Check.read(new DiagramOdds(), "a:true;"), 1);
    }

    static void faultKind() {
        Check.promise(18, "The KIND of the FAULT of the latest read(); 0 without one.");
        DiagramOdds x = Check.with(2, 3);
        Check.due("before any", x.fault(), 0);
        String[] texts = {"@", ";", "a:b;", "a:#1;", "a:" + Check.repeat("!", 21) + "#0;"};
        for (int kind = 1; kind <= 5; kind++) {
            Check.read(x, texts[kind - 1]);
            Check.due("of kind " + kind, x.fault(), kind);
            Check.due("asked again", x.fault(), kind);
            x.named();
            x.feed(BLANKS, BLANKS, BLANKS, BLANKS, BLANKS);
            x.end(0);
            x.not(0);
            Check.due("other calls leave it", x.fault(), kind);
        }
        x.read();
        Check.due("nothing read", x.fault(), 0);
        Check.read(x, "@");
        Check.read(x, "a:#0;");
        Check.due("a text without one", x.fault(), 0);
        Check.named(x, "@");
        Check.due("named is no read", x.fault(), 0);
    }

    static void named() {
        Check.promise(19, "The function of the NAME on the tape (blanks around it).");
        DiagramOdds x = Check.with(2, 3);
        x.is(1, 2);
        Check.read(x, "a:#0;z9:!a;abcdef:true;a1b2c3:false;");
        Check.due("one byte", Check.named(x, "a"), 1);
        Check.due("two bytes", Check.named(x, "z9"), 2);
        Check.due("six bytes", Check.named(x, "abcdef"), 3);
        Check.due("six bytes with digits", Check.named(x, "a1b2c3"), 4);
        Check.due("blanks before", Check.named(x, "\n \na"), 1);
        Check.due("blanks behind", Check.named(x, "a \n "), 1);
        Check.due("as many blanks as can be", Check.named(x, Check.repeat(" ", 199) + "a" + Check.repeat("\n", 200)), 1);
        Check.due("at the end of 400", Check.named(x, Check.repeat(" ", 394) + "abcdef"), 3);
        Check.due("at the beginning of 400", Check.named(x, "abcdef" + Check.repeat(" ", 394)), 3);
        Check.read(x, "late:#1=2;");
        Check.due("of a later text", Check.named(x, "late"), 5);
        x.choice(2);
        x.seek();
        Check.due("with a later variable, in another order", Check.named(x, "a"), 1);
        Check.fill(x);
        Check.due("with no room", Check.named(x, "late"), 5);
    }

    static void notNamed() {
        Check.promise(19, "STATE (the tape is not just one NAME that is known).");
        String[] texts = {
            "", " ", "\n", "b", "ab", "aa", "a1", "A", "abcde", "abcdeg", "abcdefg", "abcdef1", "a a", "a b", "abc def", "a:", "a;", ":a", "a,a", "!a",
            "(a)", "#0", "0", "1a", "true", "false", "some", "all", "@", "a@", "@a", "a\t", "\ta", "a\0", "\0", "\u00e1", "a:#0;"};
        for (String text : texts) {
            DiagramOdds x = Check.with(2);
            Check.read(x, "a:#0;abcdef:!a;");
            Check.due("'" + text + "'", Check.named(x, text), Edge.STATE);
            Check.due("the tape is used up", x.feed(BLANKS, BLANKS, BLANKS, BLANKS, BLANKS), 20);
            Check.due("the names stay", Check.named(x, "a"), 0);
        }
        DiagramOdds x = Check.with(2);
        Check.read(x, "a:#0;b:#1;");
        Check.due("a name of what had a fault", Check.named(x, "a"), Edge.STATE);
        x.not(x.is(0, 1));
        Check.due("a name of what had a fault, with functions since", Check.named(x, "a"), Edge.STATE);
    }

    public static void main(String[] args) {
        tape();
        feeding();
        feedingThrows();
        end();
        endThrows();
        read();
        faultKind();
        named();
        notNamed();
        Check.finish("texts at their bounds");
    }
}
