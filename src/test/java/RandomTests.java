import java.util.ArrayList;
import java.util.List;
import java.util.Random;

/** Long runs of calls, picked by a seed, each answer compared with the oracle's. */
public final class RandomTests {
    static final String[] CALLS = {
        "choice", "weight", "rule", "is", "compare", "many", "join", "not", "choose", "condition", "quantify",
        "substitute", "exchange", "feed", "end", "read", "fault", "named", "runs", "alike", "depends", "size",
        "ways", "least", "best", "told", "odds", "part", "weigh", "enter", "down", "here", "print", "printed",
        "place", "move", "seek", "text", "text", "name"};

    private static final int MOST_CALLS = 512;

    final Random random;
    final DiagramOdds x = new DiagramOdds();
    final Oracle o = new Oracle();
    final List<String> trace = new ArrayList<>();
    final int mostRuns;
    final int functionsAt;
    /** How many calls the object has had: behind the 512th nothing is promised. */
    int calls = 0;

    RandomTests(long seed, int mostRuns, int functionsAt) {
        random = new Random(seed);
        this.mostRuns = mostRuns;
        this.functionsAt = functionsAt;
    }

    int pick(int n) { return random.nextInt(n); }

    boolean odd() { return pick(25) == 0; }

    int strange() {
        int[] strange = {-1, -2, 40, 41, 1000, Integer.MAX_VALUE, Integer.MIN_VALUE, 10, 11, 7};
        return strange[pick(strange.length)];
    }

    int variable() { return odd() || o.sizes.isEmpty() ? strange() : pick(o.sizes.size()); }

    int function() {
        int n = o.functions.size();
        if (odd() || n == 0) return strange();
        return pick(2) == 0 ? pick(n) : Math.max(0, n - 1 - pick(6));
    }

    int value(int variable) {
        if (odd()) return strange();
        return o.noVariable(variable) ? pick(6) : pick(o.sizes.get(variable) + (odd() ? 1 : 0));
    }

    int mask() {
        if (odd()) return random.nextInt();
        int mask = 0;
        for (int v = 0; v < o.sizes.size(); v++) if ((o.sizes.get(v) == 2 || odd()) && pick(3) != 0) mask |= 1 << v;
        return mask;
    }

    interface Call { long answer(); }

    static final long[] THROWN = {Long.MIN_VALUE, Long.MIN_VALUE + 1, Long.MIN_VALUE + 2};

    /** Just the exceptions that the document names: any other one ends the test. */
    static long answer(Call call) {
        try {
            return call.answer();
        } catch (IllegalStateException e) {
            return THROWN[0];
        } catch (IllegalArgumentException e) {
            return THROWN[1];
        } catch (ArithmeticException e) {
            if (e.getMessage() != null && e.getMessage().contains("by zero")) throw e;
            return THROWN[2];
        }
    }

    private boolean hasRoomFor(int more) { return calls + more <= MOST_CALLS; }

    void both(String what, Call got, Call want) {
        if (!hasRoomFor(1)) return;
        calls++;
        trace.add(what);
        long due = answer(want);
        long mine = answer(got);
        if (mine == due) return;
        Check.due(String.join("\n", trace) + "\n", mine, due);
        Check.finish("random runs");
    }

    void step(String call) {
        int v = variable(), w = variable(), f = function(), g = function(), h = function(), n = value(v);
        boolean b = pick(2) == 0;
        int small = odd() ? strange() : pick(31), op = odd() ? strange() : pick(6), place = odd() ? strange() : pick(10);
        switch (call) {
            case "choice":
                int values = odd() ? strange() : 2 + (pick(3) == 0 ? pick(5) : 0);
                if (values >= 2 && values <= 6 && o.runCount() * values > mostRuns && mostRuns < 1024) break;
                both("choice " + values, () -> x.choice(values), () -> o.choice(values));
                break;
            case "weight": both("weight " + v + " " + n + " " + small, () -> x.weight(v, n, small), () -> o.weight(v, n, small)); break;
            case "rule": {
                boolean out = pick(4) == 0;
                both("rule " + v + " " + n + " " + out, () -> x.rule(v, n, out), () -> o.rule(v, n, out));
                break;
            }
            case "runs": both("runs " + f, () -> x.runs(f), () -> o.runs(f)); break;
            case "alike": both("alike " + f + " " + g, () -> x.alike(f, g), () -> o.alike(f, g)); break;
            case "depends": both("depends " + f + " " + v, () -> x.depends(f, v), () -> o.depends(f, v)); break;
            case "size": {
                int one = pick(3) == 0 ? -1 : f;
                both("size " + one, () -> x.size(one), () -> o.size(one));
                break;
            }
            case "ways": both("ways " + f, () -> x.ways(f), () -> o.ways(f)); break;
            case "least":
                both("least " + f, () -> x.least(f), () -> o.least(f));
                allTold();
                break;
            case "best":
                both("best " + f, () -> x.best(f), () -> o.best(f));
                allTold();
                break;
            case "told": both("told " + v, () -> x.told(v), () -> o.told(v)); break;
            case "odds": {
                int given = pick(3) == 0 ? -1 : g;
                both("odds " + f + " " + given, () -> x.odds(f, given), () -> o.odds(f, given));
                both("part false", () -> x.part(false), () -> o.part(false));
                both("part true", () -> x.part(true), () -> o.part(true));
                break;
            }
            case "part": both("part " + b, () -> x.part(b), () -> o.part(b)); break;
            case "weigh": both("weigh " + f, () -> x.weigh(f), () -> o.weigh(f)); break;
            case "enter":
                both("enter " + f, () -> x.enter(f), () -> o.enter(f));
                for (int i = pick(5); i > 0; i--) step("down");
                break;
            case "down": {
                int at = o.here() < 0 ? pick(4) : value(o.here());
                both("down " + at, () -> x.down(at), () -> o.down(at));
                break;
            }
            case "here": both("here", () -> x.here(), () -> o.here()); break;
            case "print":
                both("print " + f, () -> x.print(f), () -> o.print(f));
                somePrinted();
                break;
            case "printed": both("printed " + small, () -> x.printed(small), () -> o.printed(small)); break;
            case "place": both("place " + v, () -> x.place(v), () -> o.place(v)); break;
            case "move": both("move " + v + " " + place, () -> x.move(v, place), () -> o.move(v, place)); break;
            case "seek": both("seek", () -> x.seek(), () -> o.seek()); break;
            default: stepText(call, f, g, h, v, w, n, op, b);
        }
    }

    void stepFunction(String call, int f, int g, int h, int v, int w, int n, int op, boolean b) {
        switch (call) {
            case "is": both("is " + v + " " + n, () -> x.is(v, n), () -> o.is(v, n)); break;
            case "compare": {
                int how = odd() ? strange() : pick(3);
                both("compare " + v + " " + w + " " + how, () -> x.compare(v, w, how), () -> o.compare(v, w, how));
                break;
            }
            case "many": {
                int mask = mask(), least = odd() ? strange() : pick(7) - 1;
                both("many " + mask + " " + least, () -> x.many(mask, least), () -> o.many(mask, least));
                break;
            }
            case "join": both("join " + op + " " + f + " " + g, () -> x.join(op, f, g), () -> o.join(op, f, g)); break;
            case "not": both("not " + f, () -> x.not(f), () -> o.not(f)); break;
            case "choose": both("choose " + f + " " + g + " " + h, () -> x.choose(f, g, h), () -> o.choose(f, g, h)); break;
            case "condition": both("condition " + f + " " + v + " " + n, () -> x.condition(f, v, n), () -> o.condition(f, v, n)); break;
            case "quantify": both("quantify " + f + " " + v + " " + b, () -> x.quantify(f, v, b), () -> o.quantify(f, v, b)); break;
            case "substitute": both("substitute " + f + " " + v + " " + g, () -> x.substitute(f, v, g), () -> o.substitute(f, v, g)); break;
            case "exchange": both("exchange " + f + " " + v + " " + w, () -> x.exchange(f, v, w), () -> o.exchange(f, v, w)); break;
            default: throw new IllegalArgumentException(call);
        }
    }

    void stepText(String call, int f, int g, int h, int v, int w, int n, int op, boolean b) {
        switch (call) {
            case "feed": {
                int a = Check.word("a: !", 0), c = pick(2) == 0 ? random.nextInt() : Check.word("b2;\n", 0);
                both("feed", () -> x.feed(a, c, c, a, c), () -> o.feed(a, c, c, a, c));
                break;
            }
            case "end": {
                int to = odd() ? strange() : pick(o.tape.length() + 1);
                both("end " + to, () -> { x.end(to); return 0; }, () -> { o.end(to); return 0; });
                break;
            }
            case "read":
                both("read", () -> x.read(), () -> o.read());
                both("fault", () -> x.fault(), () -> o.fault());
                break;
            case "fault": both("fault", () -> x.fault(), () -> o.fault()); break;
            case "named": both("named", () -> x.named(), () -> o.named()); break;
            case "text":
                put(new TextMaker(random, o).text());
                step("read");
                break;
            case "name":
                put(new TextMaker(random, o).lonelyName());
                step("named");
                break;
            default:
                stepFunction(call, f, g, h, v, w, n, op, b);
        }
    }

    void put(String text) {
        int feeds = (text.length() + 19) / 20;
        if (!hasRoomFor(feeds + 2)) return;
        calls += feeds + 2;
        trace.add("put " + text);
        o.end(0);
        o.tape = text;
        Check.put(x, text);
    }

    void allTold() {
        for (int v = 0; v < o.sizes.size(); v++) {
            int variable = v;
            both("told " + v, () -> x.told(variable), () -> o.told(variable));
        }
    }

    /** All bytes would be too many calls: the ends of what was printed, and some between. */
    void somePrinted() {
        int bytes = o.printed.length();
        for (int i : new int[] {-1, 0, 1, bytes - 1, bytes}) printedAt(i);
        for (int i = 0; i < 12; i++) printedAt(pick(bytes + 1));
    }

    private void printedAt(int i) { both("printed " + i, () -> x.printed(i), () -> o.printed(i)); }

    void run(int steps) {
        for (int i = pick(4); i >= 0; i--) step("choice");
        for (int i = 0; i < steps && hasRoomFor(1); i++) {
            String call = CALLS[pick(CALLS.length)];
            boolean dear = call.equals("seek") && mostRuns > 200 && pick(8) != 0;
            // Functions are made slowly at first, so that there is much to ask before there is no room.
            boolean early = o.functions.size() > functionsAt + i / 10;
            if (!dear && !(early && "is compare many join not choose condition quantify substitute exchange text".contains(call))) step(call);
        }
    }

    public static void main(String[] args) {
        int runs = args.length > 0 ? Integer.parseInt(args[0]) : 500;
        long first = args.length > 1 ? Long.parseLong(args[1]) : 0;
        long calls = 0;
        for (int i = 0; i < runs; i++) {
            int most = i % 50 == 7 ? 1024 : i % 10 == 3 ? 144 : 48;
            RandomTests test = new RandomTests(first + i, most, most == 1024 ? 2 : 4);
            test.run(most == 1024 ? 120 : 300);
            calls += test.calls;
        }
        Check.due("calls were made", calls > runs * 100L ? 1 : 0, 1);
        Check.finish("random runs, " + calls + " calls");
    }
}
