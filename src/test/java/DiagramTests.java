/** Promises 31 to 35: enter, down, here, print, printed. */
public final class DiagramTests {
    private DiagramTests() { }

    static void walk() {
        DiagramOdds x = Check.with(2, 3, 2);
        int f = x.join(1, x.join(0, x.is(0, 1), x.is(1, 2)), x.is(2, 1));
        int always = x.many(0, 0), never = x.many(0, 1);
        Check.due("33 nowhere", x.here(), DiagramOdds.NONE);
        Check.due("32 down from nowhere", x.down(0), DiagramOdds.STATE);
        Check.due("32 STATE before OUTSIDE", x.down(-5), DiagramOdds.STATE);
        Check.due("31 no function", x.enter(7), DiagramOdds.UNKNOWN);
        Check.due("31 enter", x.enter(f), 0);
        Check.due("33 here", x.here(), 0);
        Check.due("32 no value", x.down(2), DiagramOdds.OUTSIDE);
        Check.due("32 no value, below", x.down(-1), DiagramOdds.OUTSIDE);
        Check.due("33 refused: still here", x.here(), 0);
        Check.due("31 no function, below", x.enter(-1), DiagramOdds.UNKNOWN);
        Check.due("33 refused: still here, too", x.here(), 0);
        Check.due("32 down past a variable", x.down(0), 2);
        Check.due("32 down to a leaf", x.down(0), -2);
        Check.due("33 at the leaf 0", x.here(), -2);
        Check.due("32 down from a leaf", x.down(0), DiagramOdds.STATE);
        Check.due("31 again", x.enter(f), 0);
        Check.due("32 the other way", x.down(1), 1);
        Check.due("32 no such value of three", x.down(3), DiagramOdds.OUTSIDE);
        Check.due("32 the third value", x.down(2), -3);
        Check.due("32 STATE at the leaf 1", x.down(9), DiagramOdds.STATE);
        Check.due("31 the leaf 1", x.enter(always), -3);
        Check.due("31 the leaf 0", x.enter(never), -2);
        Check.due("33 the leaf 0", x.here(), -2);
    }

    static void leaving() {
        DiagramOdds x = Check.with(2, 3);
        int f = x.compare(0, 1, 1);
        x.enter(f);
        x.not(f);
        x.print(f);
        x.size(f);
        Check.due("33 other calls leave one where one is", x.here(), 0);
        Check.due("33 and go on from there", x.down(1), 1);
        Check.due("33 a refused variable", x.choice(9), DiagramOdds.OUTSIDE);
        Check.due("33 does not move one", x.here(), 1);
        Check.due("33 a refused move", x.move(2, 0), DiagramOdds.UNKNOWN);
        Check.due("33 does not move one either", x.here(), 1);
        Check.due("33 a refused place", x.move(0, 2), DiagramOdds.OUTSIDE);
        Check.due("33 nor does that", x.here(), 1);
        x.move(0, 0);
        Check.due("33 a move, even if nothing moves", x.here(), DiagramOdds.NONE);
        x.enter(f);
        x.seek();
        Check.due("33 seek", x.here(), DiagramOdds.NONE);
        x.seek();
        x.enter(f);
        x.seek();
        Check.due("33 seek, even if nothing moves", x.here(), DiagramOdds.NONE);
        x.enter(f);
        x.choice(2);
        Check.due("33 a new variable", x.here(), DiagramOdds.NONE);
        Check.due("32 then there is no way down", x.down(0), DiagramOdds.STATE);
    }

    static void print() {
        DiagramOdds x = Check.with(2, 3, 2);
        Check.due("35 before any", x.printed(0), DiagramOdds.NONE);
        int f = x.join(1, x.join(0, x.is(0, 1), x.is(1, 2)), x.is(2, 1));
        Check.due("34 bytes", x.print(f), 28);
        Check.due("34 nodes as they are come to", Check.printed(x, f), "2:0(3,4) 3:2(0,1) 4:1(3,3,1)");
        Check.due("34 refused", x.print(9), DiagramOdds.UNKNOWN);
        Check.due("34 refused, below", x.print(-1), DiagramOdds.UNKNOWN);
        Check.due("35 what was printed stays", x.printed(0), '2');
        Check.due("35 the last byte", x.printed(27), ')');
        Check.due("35 behind it", x.printed(28), DiagramOdds.NONE);
        Check.due("35 before it", x.printed(-1), DiagramOdds.NONE);
        Check.due("35 far behind it", x.printed(Integer.MAX_VALUE), DiagramOdds.NONE);
        Check.due("35 far before it", x.printed(Integer.MIN_VALUE), DiagramOdds.NONE);
        x.move(2, 0);
        Check.due("35 a move does not print", x.printed(4), '3');
        Check.due("34 in another order", Check.printed(x, f), "2:2(3,1) 3:0(0,4) 4:1(0,0,1)");
        Check.due("34 a leaf", Check.printed(x, x.many(0, 0)), "1");
        Check.due("34 the other leaf", Check.printed(x, x.many(0, 1)), "0");
        Check.due("35 nothing of what was longer", x.printed(1), DiagramOdds.NONE);
        Check.due("34 a function without the first variable", Check.printed(x, x.is(1, 0)), "2:1(1,0,0)");
        DiagramOdds y = Check.with(6, 6);
        Check.due("34 six values", Check.printed(y, y.compare(0, 1, 0)),
            "2:0(3,4,5,6,7,8) 3:1(1,0,0,0,0,0) 4:1(0,1,0,0,0,0) 5:1(0,0,1,0,0,0) 6:1(0,0,0,1,0,0) 7:1(0,0,0,0,1,0) 8:1(0,0,0,0,0,1)");
        DiagramOdds z = Check.with(2, 2, 2, 2);
        Check.due("34 of each in the order of numbers", Check.printed(z, z.join(2, z.many(15, 2), z.compare(0, 3, 1))),
            "2:0(3,4) 3:1(5,6) 4:1(7,1) 5:2(8,0) 6:2(0,9) 7:2(8,1) 8:3(0,1) 9:3(1,0)");
        DiagramOdds w = Check.with(2, 2, 2, 2, 2);
        Check.due("34 a number of two digits", Check.printed(w, w.many(31, 3)),
            "2:0(3,4) 3:1(5,6) 4:1(6,7) 5:2(0,8) 6:2(8,9) 7:2(9,1) 8:3(0,10) 9:3(10,1) 10:4(0,1)");
    }

    public static void main(String[] args) {
        walk();
        leaving();
        print();
        Check.finish("diagrams");
    }
}
