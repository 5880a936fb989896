/** What the tests share: a count of wrong answers, and texts put onto the tape. */
final class Check {
    private static int wrong = 0;
    private static int asked = 0;
    private static String words = "";

    private Check() { }

    /** The words of a promise by which what follows is due. SentenceTests looks whether they stand there. */
    static void promise(int number, String quoted) { words = "promise " + number + ", " + quoted + ": "; }

    /** The same for the words that stand ahead of the promises. */
    static void term(String quoted) { words = quoted + ": "; }

    static void due(String what, long got, long want) { due(what, Long.toString(got), Long.toString(want)); }

    static void due(String what, String got, String want) {
        asked++;
        if (got.equals(want)) return;
        wrong++;
        System.out.println(words + what + " answered " + got + ", due is " + want);
    }

    static int word(String text, int at) {
        int word = 0;
        for (int i = at; i < at + 4; i++) word = word << 8 | (i < text.length() ? text.charAt(i) & 255 : 0);
        return word;
    }

    /** The tape becomes a text of 400 bytes at most. */
    static void put(DiagramOdds x, String text) {
        x.end(0);
        for (int i = 0; i < text.length(); i += 20) {
            x.feed(word(text, i), word(text, i + 4), word(text, i + 8), word(text, i + 12), word(text, i + 16));
        }
        x.end(text.length());
    }

    static int read(DiagramOdds x, String text) {
        put(x, text);
        return x.read();
    }

    static int named(DiagramOdds x, String text) {
        put(x, text);
        return x.named();
    }

    static String printed(DiagramOdds x, int function) {
        StringBuilder text = new StringBuilder();
        int bytes = x.print(function);
        for (int i = 0; i < bytes; i++) text.append((char) x.printed(i));
        due("printed behind the end", x.printed(bytes), DiagramOdds.NONE);
        return text.toString();
    }

    /** For which runs a function is so, the last variable changing first: read off by fixing each variable in turn. */
    static String row(DiagramOdds x, int function, int... sizes) {
        StringBuilder row = new StringBuilder();
        int[] at = new int[sizes.length];
        int runs = 1;
        for (int size : sizes) runs *= size;
        for (int i = 0; i < runs; i++) {
            row.append(walk(x, function, at) == -3 ? '1' : '0');
            for (int v = sizes.length - 1; v >= 0 && ++at[v] == sizes[v]; v--) at[v] = 0;
        }
        return row.toString();
    }

    private static int walk(DiagramOdds x, int function, int[] run) {
        int at = x.enter(function);
        for (int i = 0; i < run.length && at >= 0; i++) at = x.down(run[at]);
        return at;
    }

    static DiagramOdds with(int... sizes) {
        DiagramOdds x = new DiagramOdds();
        for (int size : sizes) x.choice(size);
        return x;
    }

    /** Makes functions till there is room for none. */
    static void fill(DiagramOdds x) {
        for (int i = 0; i < 40; i++) x.many(0, 0);
    }

    static void told(String what, DiagramOdds x, int... run) {
        for (int v = 0; v < run.length; v++) due(what + ", variable " + v, x.told(v), run[v]);
    }

    static String repeat(String text, int n) {
        StringBuilder made = new StringBuilder();
        for (int i = 0; i < n; i++) made.append(text);
        return made.toString();
    }

    static String throwsOf(Runnable call) {
        try {
            call.run();
            return "nothing";
        } catch (RuntimeException e) {
            return e.getClass().getSimpleName();
        }
    }

    static void finish(String name) {
        System.out.println(name + ": " + asked + " answers, " + wrong + " wrong");
        if (wrong != 0) System.exit(1);
    }
}
