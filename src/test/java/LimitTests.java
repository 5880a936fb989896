import java.lang.management.ManagementFactory;
import java.util.Random;

/** The largest objects that the document allows, and what a run of calls takes of the room. */
public final class LimitTests {
    /** A run may have some 600,000 objects and 7.3 million elements: a tenth of that is far from the edge. */
    private static final long MOST_BYTES_OF_A_RUN = 3000000;

    private LimitTests() { }

    /** A function without any pattern: an odd number of products of variables. */
    static String tangle(Random random, int[] sizes, int bytes) {
        StringBuilder text = new StringBuilder();
        while (text.length() < bytes) {
            if (text.length() > 0) text.append('^');
            text.append(random.nextInt(4) == 0 ? "!" : "");
            for (int i = random.nextInt(5); i >= 0; i--) {
                int v = random.nextInt(sizes.length);
                text.append('#').append(v);
                if (sizes[v] > 2) text.append('=').append(random.nextInt(sizes[v]));
                if (i > 0) text.append('&');
            }
        }
        return text.toString();
    }

    static String name(int i) { return "" + (char) ('a' + i / 26) + (char) ('a' + i % 26); }

    /** Four functions in a text of 400 bytes at most, the later ones made of those before, too. */
    static String four(Random random, int[] sizes, int first) {
        StringBuilder text = new StringBuilder();
        for (int i = first; i < first + 4; i++) {
            text.append(name(i)).append(':').append(tangle(random, sizes, 56));
            if (i > 1) text.append('^').append(name(i - 1)).append('&').append(name(random.nextInt(i - 1)));
            text.append(';');
        }
        return text.toString();
    }

    static void largest(int[] sizes, long seed) {
        Random random = new Random(seed);
        DiagramOdds x = new DiagramOdds();
        Oracle o = new Oracle();
        for (int size : sizes) {
            x.choice(size);
            o.choice(size);
        }
        for (int i = 0; i < 40; i += 4) {
            String text = four(random, sizes, i);
            Check.due("read " + text, Check.read(x, text), 4);
            o.tape = text;
            o.read();
        }
        Check.due("a 41st function", x.not(0), DiagramOdds.ROOM);
        Check.due("a 41st name", Check.read(x, " new: true;"), -1001);
        Check.due("its fault", x.fault(), 5);
        Check.due("size of all", x.size(-1), o.size(-1));
        for (int i = 0; i < 6; i++) {
            int v = random.nextInt(sizes.length), to = random.nextInt(sizes.length);
            Check.due("move", x.move(v, to), o.move(v, to));
            Check.due("a size", x.size(i), o.size(i));
            Check.due("ways", x.ways(i), o.ways(i));
        }
        Check.due("print", x.print(7), o.print(7));
        int bytes = o.printed.length();
        for (int i = bytes - 60; i <= bytes; i++) Check.due("printed " + i, x.printed(i), o.printed(i));
        for (int i = 0; i < 40; i++) Check.due("runs", x.runs(i), o.runs(i));
        // The oracle takes too long for a search of so much: what cannot change by one is looked at instead.
        int before = x.size(-1);
        int after = x.seek();
        Check.due("seek makes nothing larger", after <= before ? 1 : 0, 1);
        for (int v = 0; v < sizes.length; v++) o.order.set(x.place(v), v);
        Check.due("size behind seek", after, o.size(-1));
        for (int i = 0; i < 40; i++) Check.due("runs behind seek", x.runs(i), o.runs(i));
    }

    /** So if variable 2 has one of some values, given as bits. */
    static String within(int values) {
        StringBuilder text = new StringBuilder("(false");
        for (int i = 0; i < 6; i++) if ((values >> i & 1) != 0) text.append("|#2=").append(i);
        return text.append(')').toString();
    }

    static void give(DiagramOdds x, Oracle o, String text) {
        Check.due("read " + text, Check.read(x, text), 1);
        o.tape = text;
        o.read();
    }

    /** One exchange of neighbours makes six nodes of one: behind whatever number of nodes, there must be places for them. */
    static void turning(int more, boolean odd) {
        DiagramOdds x = Check.with(2, 6, 6, 2);
        Oracle o = new Oracle();
        for (int size : new int[] {2, 6, 6, 2}) o.choice(size);
        StringBuilder text = new StringBuilder("first:false");
        for (int i = 0; i < 6; i++) text.append("|#1=" + i + "&(#0&#2=" + i + "|!#0&#2=" + (i + 1) % 6 + ")");
        give(x, o, text.append(';').toString());
        if (odd) give(x, o, "odd:#3;");
        // Two nodes each: one of variable 2, and one ahead of it. The last one made is of the first variable.
        for (int i = 0; i < more; i++) give(x, o, name(i) + ":" + ((more - i) % 2 == 1 ? "#0&" : "#1=5&") + within(3 + 2 * i) + ";");
        int nodes = 9 + 2 * more + (odd ? 1 : 0);
        Check.due("size of all", x.size(-1), nodes);
        Check.due("move(1, 0) behind " + nodes + " nodes", x.move(1, 0), o.move(1, 0));
        Check.due("move(0, 3) behind it", x.move(0, 3), o.move(0, 3));
    }

    /** As many of the dearest calls as there may be, some 500, on a fresh object. */
    static long bytesOfARun(Random random) {
        com.sun.management.ThreadMXBean bean = (com.sun.management.ThreadMXBean) ManagementFactory.getThreadMXBean();
        int[] sizes = {2, 2, 2, 2, 2, 2, 2, 2, 2, 2};
        String[] texts = new String[10];
        for (int i = 0; i < 10; i++) texts[i] = four(random, sizes, 4 * i);
        long thread = Thread.currentThread().getId();
        long before = bean.getThreadAllocatedBytes(thread);
        DiagramOdds x = new DiagramOdds();
        for (int size : sizes) x.choice(size);
        for (String text : texts) Check.read(x, text);
        for (int i = 0; i < 70; i++) {
            x.seek();
            x.print(i % 40);
            x.best(i % 40);
            x.move(i % 10, i * 7 % 10);
        }
        return bean.getThreadAllocatedBytes(thread) - before;
    }

    public static void main(String[] args) {
        largest(new int[] {2, 2, 2, 2, 2, 2, 2, 2, 2, 2}, 1);
        largest(new int[] {4, 4, 4, 4, 4}, 2);
        largest(new int[] {6, 5, 4, 3, 2}, 3);
        largest(new int[] {6, 6, 6, 4}, 4);
        largest(new int[] {2, 2, 2, 2, 2, 5, 6}, 5);
        for (int more = 22; more <= 26; more++) {
            turning(more, false);
            turning(more, true);
        }
        long bytes = bytesOfARun(new Random(6));
        Check.due("bytes of a run: " + bytes, bytes < MOST_BYTES_OF_A_RUN ? 1 : 0, 1);
        Check.finish("limits");
    }
}
