/** Promises 36 to 38: place, move, seek. */
public final class OrderTests {
    private OrderTests() { }

    static String order(DiagramOdds x, int variables) {
        char[] order = new char[variables];
        for (int v = 0; v < variables; v++) order[x.place(v)] = (char) ('0' + v);
        return new String(order);
    }

    static void place() {
        DiagramOdds x = Check.with(2, 3, 2);
        Check.due("36 as they are made", order(x, 3), "012");
        Check.due("36 not there", x.place(3), DiagramOdds.UNKNOWN);
        Check.due("36 not there, below", x.place(-1), DiagramOdds.UNKNOWN);
        x.move(0, 2);
        Check.due("36 moved", x.place(0), 2);
        x.choice(2);
        Check.due("36 a new one comes to the end", order(x, 4), "1203");
    }

    static void move() {
        DiagramOdds x = Check.with(2, 2, 2, 2, 2);
        Check.due("37 no functions", x.move(1, 3), 0);
        Check.due("37 down", order(x, 5), "02314");
        x.move(4, 0);
        Check.due("37 up to the beginning", order(x, 5), "40231");
        x.move(4, 4);
        Check.due("37 down to the end", order(x, 5), "02314");
        x.move(3, 2);
        Check.due("37 where it is", order(x, 5), "02314");
        Check.due("37 no variable", x.move(5, 0), DiagramOdds.UNKNOWN);
        Check.due("37 UNKNOWN before OUTSIDE", x.move(-1, 9), DiagramOdds.UNKNOWN);
        Check.due("37 no place", x.move(0, 5), DiagramOdds.OUTSIDE);
        Check.due("37 no place, below", x.move(0, -1), DiagramOdds.OUTSIDE);
        Check.due("37 refused: nothing moved", order(x, 5), "02314");
        DiagramOdds none = new DiagramOdds();
        Check.due("37 no variables", none.move(0, 0), DiagramOdds.UNKNOWN);
    }

    static void sizes() {
        DiagramOdds x = Check.with(3, 3, 3, 3);
        int f = x.join(0, x.compare(0, 2, 0), x.compare(1, 3, 0));
        Check.due("37 before", x.size(f), 1 + 3 + 9 + 3);
        Check.due("37 side by side", x.move(2, 1), (1 + 3 + 1 + 3) + 3 + 1);
        Check.due("37 alone", x.size(f), 8);
        Check.due("37 the runs stay", x.runs(f), 9);
        Check.due("37 what is alike stays so", x.alike(f, x.join(0, 1, 0)), 1);
        Check.due("37 and back", x.move(1, 1), 16 + 1 + 3 + 1);
        Check.due("37 order and back", order(x, 4), "0123");
    }

    /** Variables of different numbers of values pass one another, to and fro. */
    static void mixed() {
        DiagramOdds x = Check.with(2, 6, 3, 4);
        int f = x.join(2, x.compare(1, 3, 2), x.join(0, x.compare(2, 1, 0), x.is(0, 1)));
        String before = Check.printed(x, f);
        int size = x.size(-1);
        int runs = x.runs(f);
        int[][] there = {{1, 3}, {0, 2}, {3, 0}, {2, 3}};
        for (int[] step : there) Check.due("37 size of all is that of its answer", x.move(step[0], step[1]), x.size(-1));
        Check.due("37 runs stay in any order", x.runs(f), runs);
        Check.due("37 rows stay in any order", x.alike(f, x.join(2, 0, 3)), 1);
        x.move(0, 0);
        x.move(1, 1);
        x.move(2, 2);
        Check.due("37 all back", x.move(3, 3), size);
        Check.due("37 as it was", Check.printed(x, f), before);
    }

    static void seek() {
        DiagramOdds x = Check.with(2, 2, 2, 2);
        Check.due("38 no functions", x.seek(), 0);
        Check.due("38 each to the first place, as all are the same", order(x, 4), "3210");
        DiagramOdds y = Check.with(2, 2, 2, 2);
        y.join(0, y.compare(0, 2, 0), y.compare(1, 3, 0));
        y.move(2, 3);
        Check.due("38 a good one", y.seek(), 9);
        Check.due("38 its size", y.size(2), 6);
        Check.due("38 the runs stay", y.runs(2), 4);
        Check.due("38 again", y.seek(), 9);
        DiagramOdds z = Check.with(2, 2, 2, 2, 2, 2);
        for (int i = 0; i < 3; i++) z.join(0, z.is(i, 1), z.is(i + 3, 1));
        int f = z.join(1, 2, z.join(1, 5, 8));
        Check.due("38 three pairs, apart", z.size(f), 14);
        z.seek();
        Check.due("38 three pairs, together", z.size(f), 6);
        for (int i = 0; i < 3; i++) Check.due("38 neighbours", Math.abs(z.place(i) - z.place(i + 3)), 1);
    }

    /** Each variable in turn, by number, and of several places the first: as trying each by move() has it. */
    static void seekByMoves() {
        for (int seed = 0; seed < 40; seed++) {
            DiagramOdds x = tangled(seed), y = tangled(seed);
            for (int v = 0; v < 5; v++) {
                int least = Integer.MAX_VALUE, best = 0;
                for (int place = 0; place < 5; place++) {
                    int size = y.move(v, place);
                    if (size < least) {
                        least = size;
                        best = place;
                    }
                }
                y.move(v, best);
            }
            Check.due("38 size by seek and by moves", x.seek(), y.size(-1));
            Check.due("38 order by seek and by moves", order(x, 5), order(y, 5));
        }
    }

    private static DiagramOdds tangled(int seed) {
        DiagramOdds x = Check.with(2, 3, 2, 4, 2);
        java.util.Random random = new java.util.Random(seed);
        for (int i = 0; i < 6; i++) x.compare(random.nextInt(5), random.nextInt(5), random.nextInt(3));
        for (int i = 6; i < 14; i++) x.join(random.nextInt(6), random.nextInt(i), random.nextInt(i));
        x.move(random.nextInt(5), random.nextInt(5));
        return x;
    }

    public static void main(String[] args) {
        place();
        move();
        sizes();
        mixed();
        seek();
        seekByMoves();
        Check.finish("the order");
    }
}
