/** All that can be asked of an object, as one text. The asking uses the object up: nothing else is asked of it then. */
final class Portrait {
    private final DiagramOdds x;
    private final StringBuilder text = new StringBuilder();

    private Portrait(DiagramOdds x) { this.x = x; }

    static String of(DiagramOdds x, String... names) {
        Portrait portrait = new Portrait(x);
        portrait.standing();
        portrait.printout();
        int variables = portrait.variables();
        portrait.functions();
        portrait.tape();
        for (String name : names) portrait.add(name, Check.named(x, name));
        for (int v = 0; v < variables; v++) portrait.values(v);
        portrait.add("next function", x.many(0, 0));
        portrait.add("next variable", x.choice(2));
        return portrait.text.toString();
    }

    private void add(String what, long answer) { text.append(what).append(' ').append(answer).append("; "); }

    private void standing() {
        add("here", x.here());
        add("upper", x.part(false));
        add("lower", x.part(true));
        add("fault", x.fault());
        for (int i = 0; i < 4; i++) add("down", x.down(0));
    }

    private void printout() {
        for (int i = 0; x.printed(i) != DiagramOdds.NONE && i < 60; i++) text.append((char) x.printed(i));
    }

    private int variables() {
        int v = 0;
        for (; v < 10 && x.place(v) != DiagramOdds.UNKNOWN; v++) {
            add("place", x.place(v));
            add("told", x.told(v));
        }
        return v;
    }

    private void functions() {
        add("size of all", x.size(DiagramOdds.NONE));
        for (int f = 0; f < 40 && x.runs(f) != DiagramOdds.UNKNOWN; f++) {
            add("runs", x.runs(f));
            add("weight", x.weigh(f));
            if (f < 10) add("size", x.size(f));
        }
    }

    /** How many bytes there are is seen by feeding, or, if there is no room, by which end can be set. */
    private void tape() {
        int bytes = 400;
        try {
            bytes = x.feed(0, 0, 0, 0, 0) - 20;
        } catch (IllegalStateException e) {
            while (bytes > 380 && !allowsEnd(bytes)) bytes--;
        }
        x.end(bytes);
        add("bytes", bytes);
        add("read", x.read());
        add("fault", x.fault());
    }

    private boolean allowsEnd(int n) {
        try {
            x.end(n);
            return true;
        } catch (IllegalArgumentException e) {
            return false;
        }
    }

    private void values(int variable) {
        for (int value = 0; value < 6; value++) {
            int weight = x.weight(variable, value, 1);
            if (weight == DiagramOdds.OUTSIDE) return;
            add("weight", weight);
            add("ruled out", x.rule(variable, value, false));
        }
    }
}
