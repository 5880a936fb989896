/** What the tests share: a count of wrong answers, and texts put onto the tape. */
final class Check {
    private static int wrong = 0;
    private static int asked = 0;

    private Check() { }

    static void due(String what, long got, long want) {
        asked++;
        if (got == want) return;
        wrong++;
        System.out.println(what + " answered " + got + ", due is " + want);
    }

    static void due(String what, String got, String want) {
        asked++;
        if (got.equals(want)) return;
        wrong++;
        System.out.println(what + " answered " + got + ", due is " + want);
    }

    static int word(String text, int at) {
        int word = 0;
        for (int i = at; i < at + 4; i++) word = word << 8 | (i < text.length() ? text.charAt(i) & 255 : 0);
        return word;
    }

    /** The tape becomes a text of 400 bytes at most. */
    static void put(DiagramOdds x, String text) {
        x.end(0);
        for (int i = 0; i < text.length(); i += 20) {
            x.feed(word(text, i), word(text, i + 4), word(text, i + 8), word(text, i + 12), word(text, i + 16));
        }
        x.end(text.length());
    }

    static int read(DiagramOdds x, String text) {
        put(x, text);
        return x.read();
    }

    static int named(DiagramOdds x, String text) {
        put(x, text);
        return x.named();
    }

    static String printed(DiagramOdds x, int function) {
        StringBuilder text = new StringBuilder();
        int bytes = x.print(function);
        for (int i = 0; i < bytes; i++) text.append((char) x.printed(i));
        due("printed behind the end", x.printed(bytes), DiagramOdds.NONE);
        return text.toString();
    }

    static String throwsOf(Runnable call) {
        try {
            call.run();
            return "nothing";
        } catch (RuntimeException e) {
            return e.getClass().getSimpleName();
        }
    }

    static void finish(String name) {
        System.out.println(name + ": " + asked + " answers, " + wrong + " wrong");
        if (wrong != 0) System.exit(1);
    }
}
