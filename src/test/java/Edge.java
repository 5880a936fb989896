/** What the tests of bounds share. */
final class Edge {
    static final int UNKNOWN = DiagramOdds.UNKNOWN, OUTSIDE = DiagramOdds.OUTSIDE;
    static final int STATE = DiagramOdds.STATE, ROOM = DiagramOdds.ROOM, NONE = DiagramOdds.NONE;

    interface Maker { DiagramOdds make(); }
    interface Call { long of(DiagramOdds x, int n); }
    interface Ask { long of(DiagramOdds x); }

    private Edge() { }

    private static boolean refused(long answer) { return answer <= UNKNOWN && answer >= ROOM; }

    /** The first and the last number are taken; those beside them, and the farthest, are refused. Each on a new object. */
    static void span(String what, Maker maker, Call call, int first, int last, int refusal) {
        for (int n : new int[] {Integer.MIN_VALUE, first - 1, last + 1, Integer.MAX_VALUE}) {
            Check.due(what + ", " + n, call.of(maker.make(), n), refusal);
        }
        for (int n : new int[] {first, last}) {
            long answer = call.of(maker.make(), n);
            Check.due(what + ", " + n + " is taken: " + answer, refused(answer) ? 1 : 0, 0);
        }
    }

    /** As a row of answers has it: a number, or what is thrown. */
    static String answer(DiagramOdds x, Ask call) {
        try {
            return Long.toString(call.of(x));
        } catch (RuntimeException e) {
            return "throws." + e.getClass().getSimpleName();
        }
    }

    /** Ten truths: as many variables, and runs, as there can be. */
    static DiagramOdds tenTruths() { return Check.with(2, 2, 2, 2, 2, 2, 2, 2, 2, 2); }

    /** And a function, which is so if the first of them is. */
    static DiagramOdds tenTruthsAndOne() {
        DiagramOdds x = tenTruths();
        x.is(0, 1);
        return x;
    }

    /** Variables of 2, 3, 2, 6 values; functions 0 to 4, of which 3 is always so and 4 never. */
    static DiagramOdds mixed() {
        DiagramOdds x = Check.with(2, 3, 2, 6);
        x.is(1, 2);
        x.compare(0, 3, 1);
        x.many(5, 2);
        x.many(0, 0);
        x.many(0, 1);
        return x;
    }

    /** As mixed(), with as many functions as there can be. */
    static DiagramOdds mixedFull() {
        DiagramOdds x = mixed();
        for (int i = 5; i < 40; i++) x.many(1, 1);
        return x;
    }
}
