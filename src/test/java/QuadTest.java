/** Promises 43 to 49, 55, 62 to 64, 70 and 71: quads, what becomes of them, and their symmetries. */
public final class QuadTest {
    private static final Check CHECK = new Check();
    private static final long NO = CornerMaps.NO;

    public static void main(String[] args) {
        inside();
        crossings();
        diagonal();
        parallel();
        shapeBy();
        symmetries();
        symmetry();
        side();
        likeness();
        hits();
        goesTo();
        kept();
        find();
        CHECK.end();
    }

    private static void inside() {
        CornerMaps x = Plain.with("point 1 1 2;point 1 0 1;point 1 1 1;point 2 2 1;point 1 0 0;point 1 2 2;point 3 1 2;"
            + "point 1 5 2;");
        CornerMaps sides = Plain.with("point 1 0 2;point 2 1 2;point 1 2 2;point 0 1 2;point 0 0 1;point 0 3 2;");
        int[] onSides = {2, 2, 2, 2, 2, 0};
        for (int p = 0; p < 6; p++) {
            CHECK.due("side " + p, sides.inside(Plain.ONE, p), onSides[p]);
        }
        int[] one = {1, 2, 2, 0, -2, 2, 0, 0};
        int[] dart = {1, 2, 2, 0, -2, 1, 1, 2};
        for (int p = 0; p < 8; p++) {
            CHECK.due("one " + p, x.inside(Plain.ONE, p), one[p]);
            CHECK.due("dart " + p, x.inside(Plain.DART, p), dart[p]);
        }
        CHECK.due("crossed", x.inside(Plain.BOW, 0), -3);
        CHECK.due("crossed, not finite", x.inside(Plain.BOW, 4), -2);
        CHECK.due("no quad", x.inside(8, 4), -1);
        CHECK.due("no point", x.inside(Plain.BOW, 8), -1);
        CHECK.due("below", x.inside(-1, 0), -1);
        CHECK.due("below, too", x.inside(0, -1), -1);
        // All but on a side, on it, all but within; both ways around.
        CornerMaps close = Script.of("quad a 0 0 3 0 3 1 0 1;quad b 0 0 0 1 3 1 3 0;"
            + "point 5 1 2;point 7 1 2;point 1 1 9999;point -1 1 9999;point 1 0 9999;point 9998 1 3333;point 9999 1 3333;"
            + "point 9999 1 3332;");
        int[] closeBy = {1, 0, 1, 0, 2, 1, 2, 0};
        for (int point = 0; point < 8; point++) {
            CHECK.due("close by " + point, close.inside(0, point), closeBy[point]);
            CHECK.due("close by, clockwise " + point, close.inside(1, point), closeBy[point]);
        }
        // Level with corners, on sides drawn out, in the dent; clockwise all.
        CornerMaps y = Script.of("quad a 0 0 -2 2 0 4 2 2;quad b 0 0 2 4 0 1 -2 4;point 0 2 1;point -3 2 1;point 3 2 1;"
            + "point 3 3 1;point 0 3 1;point 0 1 2;point 1 3 1;point 0 4 1;");
        int[] rhomb = {1, 0, 0, 0, 1, 1, 2, 2};
        int[] dented = {0, 0, 0, 0, 0, 1, 0, 0};
        for (int p = 0; p < 8; p++) {
            CHECK.due("rhomb " + p, y.inside(0, p), rhomb[p]);
            CHECK.due("dented " + p, y.inside(1, p), dented[p]);
        }
    }

    private static void crossings() {
        CornerMaps x = Script.of("quad a 0 0 2 0 2 2 0 2;quad b 1 1 3 1 3 3 1 3;quad c 5 5 6 5 6 6 5 6;"
            + "quad d 2 0 4 0 4 2 2 2;quad e 0 0 2 2 2 0 0 2;quad f 1 -1 3 1 1 3 -1 1;quad g 0 -1 3 -1 3 -3 0 -3;"
            + "quad h -1 0 1 0 1 -1 -1 -1;");
        CHECK.due("itself", x.crossings(0, 0), 12);
        CHECK.due("two crossings", x.crossings(0, 1), 2);
        CHECK.due("apart", x.crossings(0, 2), 0);
        CHECK.due("a side in common", x.crossings(0, 3), 7);
        CHECK.due("crossed with itself", x.crossings(4, 4), 14);
        CHECK.due("corners amid sides", x.crossings(0, 5), 8);
        CHECK.due("in parallel", x.crossings(0, 6), 0);
        CHECK.due("in one line, overlapping", x.crossings(0, 7), 3);
        CHECK.due("the other way around", x.crossings(7, 0), 3);
        CornerMaps y = Script.of("quad a 0 0 0 5 -1 5 -1 0;quad b 0 3 0 8 1 8 1 3;quad c 0 8 0 6 1 6 1 8;"
            + "quad d 5 5 7 7 8 6 6 4;quad e 6 6 1 1 2 0 7 5;quad f 8 8 9 9 10 8 9 7;quad g 0 0 2 2 1 5 -3 6;"
            + "quad h 3 3 1 0 9 -9 9 -8;");
        CHECK.due("upright, overlapping", y.crossings(0, 1), 3);
        CHECK.due("upright, the other way around", y.crossings(1, 0), 3);
        CHECK.due("upright, apart", y.crossings(0, 2), 0);
        CHECK.due("slanting, overlapping", y.crossings(3, 4), 6);
        CHECK.due("slanting, apart", y.crossings(3, 5), 0);
        CHECK.due("an end on a side drawn out", y.crossings(6, 7), 0);
        // Spans on y = 2 x + 1: of the first side 1 3 3 7 others have a part, an end, nothing.
        CornerMaps z = Script.of("quad a 1 3 3 7 20 8 20 -20;quad b 2 5 5 11 -9 20 -9 -20;quad c 3 7 6 13 1 20 -9 19;"
            + "quad d 4 9 6 13 1 20 -9 19;quad e -5 -9 1 3 -9 3 -9 -9;quad f -1 -1 0 1 -9 1 -9 -3;quad g 3 7 1 3 -9 3 -9 7;");
        int[] onOneLine = new int[7];
        for (int other = 0; other < 7; other++) {
            onOneLine[other] = touching(z, 0, other);
            CHECK.due("on one line " + other, z.crossings(0, other), onOneLine[other]);
            CHECK.due("the other way around " + other, z.crossings(other, 0), onOneLine[other]);
        }
        // The same upright on x = 5, and level on y = 5.
        CornerMaps upright = Script.of("quad a 5 0 5 2 9 2 9 0;quad b 5 1 5 7 1 7 1 1;quad c 5 2 5 6 1 6 1 2;"
            + "quad d 5 4 5 6 1 6 1 4;quad e 5 -2 5 -6 1 -6 1 -2;quad f 5 6 5 4 1 4 1 6;quad g 5 -1 5 3 1 3 1 -1;"
            + "quad h 5 2 5 0 1 0 1 2;");
        CornerMaps level = Script.of("quad a 0 5 2 5 2 9 0 9;quad b 1 5 7 5 7 1 1 1;quad c 2 5 6 5 6 1 2 1;"
            + "quad d 4 5 6 5 6 1 4 1;quad e -2 5 -6 5 -6 1 -2 1;quad f 6 5 4 5 4 1 6 1;quad g -1 5 3 5 3 1 -1 1;"
            + "quad h 2 5 0 5 0 1 2 1;");
        int[] common = {12, 3, 4, 0, 0, 0, 3, 7};
        for (int other = 0; other < 8; other++) {
            CHECK.due("upright " + other, upright.crossings(0, other), common[other]);
            CHECK.due("upright, the other way around " + other, upright.crossings(other, 0), common[other]);
            CHECK.due("level " + other, level.crossings(0, other), common[other]);
            CHECK.due("level, the other way around " + other, level.crossings(other, 0), common[other]);
            CHECK.due("upright, reckoned " + other, touching(upright, 0, other), common[other]);
        }
        CHECK.due("nothing in common", onOneLine[3] + onOneLine[5], 0);
        CHECK.due("an end alone", onOneLine[2], 4);
        CHECK.due("no first", x.crossings(8, 0), -1);
        CHECK.due("no second", x.crossings(0, 8), -1);
        CHECK.due("below", x.crossings(-1, 0), -1);
        CHECK.due("below, too", x.crossings(0, -1), -1);
    }

    /** How many sides of two quads touch, reckoned by the model's way. */
    private static int touching(CornerMaps x, int q, int r) {
        int count = 0;
        for (int k = 0; k < 4; k++) {
            for (int j = 0; j < 4; j++) {
                count += Exact.touch(at(x, q, k), at(x, q, k + 1), at(x, r, j), at(x, r, j + 1)) ? 1 : 0;
            }
        }
        return count;
    }

    private static java.math.BigInteger[] at(CornerMaps x, int q, int k) {
        return Exact.row(x.corner(q, k % 4, 0), x.corner(q, k % 4, 1), 1);
    }

    private static void diagonal() {
        CornerMaps x = Plain.with("");
        CHECK.three("0 1 and 2 3", what -> x.diagonal(Plain.TRAP, 0, what), 1, 0, 0);
        CHECK.three("1 2 and 3 0", what -> x.diagonal(Plain.TRAP, 1, what), 2, 4, 1);
        CHECK.three("0 2 and 1 3", what -> x.diagonal(Plain.TRAP, 2, what), 6, 4, 3);
        CHECK.three("crossed", what -> x.diagonal(Plain.BOW, 0, what), 1, 1, 1);
        CHECK.three("dart", what -> x.diagonal(Plain.DART, 1, what), 0, 4, 3);
        CHECK.due("k 3", x.diagonal(0, 3, 0), NO);
        CHECK.due("k -1", x.diagonal(0, -1, 0), NO);
        CHECK.due("what 3", x.diagonal(0, 0, 3), NO);
        CHECK.due("what -1", x.diagonal(0, 0, -1), NO);
        CHECK.due("quad 8", x.diagonal(8, 0, 0), NO);
        CHECK.due("quad -1", x.diagonal(-1, 0, 0), NO);
    }

    private static void parallel() {
        CornerMaps x = Plain.with("");
        CHECK.due("the square's image", x.parallel(Plain.M_TRAP, Plain.ONE), 1);
        CHECK.due("squares", x.parallel(Plain.M_TWICE, Plain.ONE), 3);
        CHECK.due("the trapezium", x.parallel(Plain.M_TURN, Plain.TRAP), 1);
        x.inverse(Plain.M_TRAP);
        CHECK.due("back", x.parallel(5, Plain.TRAP), 3);
        CHECK.due("none", x.parallel(Plain.M_TWICE, Plain.DART), 0);
        CHECK.due("no map", x.parallel(6, 0), -1);
        CHECK.due("no quad", x.parallel(0, 8), -1);
        CHECK.due("below", x.parallel(-1, 0), -1);
        CHECK.due("below, too", x.parallel(0, -1), -1);
        // Around 0 -1, where the diagonals meet on the horizon: those aren't asked for.
        CornerMaps z = Script.of(Plain.QUADS.replace("quad skew 0 0 1 0 2 1 1 1;", "quad low -1 -2 1 -2 1 0 -1 0;")
            + "map trap one trap;");
        CHECK.due("not the diagonals", z.parallel(0, Plain.SKEW), 1);
        // One more whose sides 1 2 and 3 0 alone come parallel.
        CornerMaps y = Script.of("quad a 0 0 3 2 1 2 0 1;quad b 0 0 1 0 3 5 0 2;quad c 0 0 0 2 2 2 3 0;map n b b;map m a c;");
        CHECK.due("second pair", y.parallel(0, 2), 2);
        CHECK.due("by a map", y.parallel(1, 0), 2);
    }

    private static void shapeBy() {
        CornerMaps x = Plain.with("");
        CHECK.due("square", x.shapeBy(Plain.M_TRAP, Plain.ONE), 0);
        CHECK.due("dart", x.shapeBy(Plain.M_TWICE, Plain.DART), 1);
        CHECK.due("bow", x.shapeBy(Plain.M_TURN, Plain.BOW), 2);
        CHECK.due("no map", x.shapeBy(5, 0), -1);
        CHECK.due("no quad", x.shapeBy(0, 8), -1);
        CHECK.due("below", x.shapeBy(-1, 0), -1);
        CHECK.due("below, too", x.shapeBy(0, -1), -1);
        // The horizon y = -1 goes through a corner; between corners, so that the form changes.
        CornerMaps y = Script.of("quad a 0 0 1 0 1 1 0 1;quad b 0 0 4 0 3 2 1 2;quad c 0 -1 2 0 1 2 -1 1;"
            + "quad d 0 -3 2 0 0 2 -2 0;quad e 0 -3 2 -2 2 1 0 1;quad f 0 0 4 0 1 -3 1 -2;"
            + "quad g 0 -3 4 5 0 1 -4 5;map t a b;");
        CHECK.due("a corner goes far", y.shapeBy(0, 2), -2);
        CHECK.due("one beyond the horizon", y.shapeBy(0, 3), 1);
        CHECK.due("two beyond the horizon", y.shapeBy(0, 4), 2);
        CHECK.due("a dent, two beyond", y.shapeBy(0, 5), 1);
        CHECK.due("the corner across the dent beyond", y.shapeBy(0, 6), 0);
    }

    private static void symmetries() {
        CornerMaps x = Plain.with("");
        int[] square = {1, 1, 8, 8, 8, 24};
        int[] skew = {1, 1, 2, 2, 8, 24};
        int[] trap = {1, 1, 2, 2, 2, 24};
        int[] dart = {1, 1, 2, 2, 2, 24};
        for (int kind = 0; kind < 6; kind++) {
            CHECK.due("square " + kind, x.symmetries(Plain.TWO, kind), square[kind]);
            CHECK.due("skew " + kind, x.symmetries(Plain.SKEW, kind), skew[kind]);
            CHECK.due("trapezium " + kind, x.symmetries(Plain.TRAP, kind), trap[kind]);
            CHECK.due("dart " + kind, x.symmetries(Plain.DART, kind), dart[kind]);
        }
        CHECK.due("kind 6", x.symmetries(0, 6), -1);
        CHECK.due("kind -1", x.symmetries(0, -1), -1);
        CHECK.due("no quad", x.symmetries(8, 0), -1);
        CHECK.due("quad -1", x.symmetries(-1, 0), -1);
        // All 24 count, though some of these maps are LARGE.
        CornerMaps y = Script.of("quad a -20 -19 20 -17 19 18 -17 20;");
        CHECK.due("LARGE ones, too", y.symmetries(0, 5), 24);
    }

    private static void symmetry() {
        CornerMaps x = Plain.with("");
        int[][] orders = {{0, 1, 2, 3}, {0, 1, 3, 2}, {0, 2, 1, 3}, {0, 2, 3, 1}, {0, 3, 1, 2}, {0, 3, 2, 1},
            {1, 0, 2, 3}, {1, 0, 3, 2}, {1, 2, 0, 3}, {1, 2, 3, 0}, {1, 3, 0, 2}, {1, 3, 2, 0},
            {2, 0, 1, 3}, {2, 0, 3, 1}, {2, 1, 0, 3}, {2, 1, 3, 0}, {2, 3, 0, 1}, {2, 3, 1, 0},
            {3, 0, 1, 2}, {3, 0, 2, 1}, {3, 1, 0, 2}, {3, 1, 2, 0}, {3, 2, 0, 1}, {3, 2, 1, 0}};
        for (int k = 0; k < 24; k++) {
            CHECK.due("symmetry " + k, x.symmetry(Plain.TRAP, k), 5);
            for (int c = 0; c < 4; c++) {
                CHECK.due(k + " x of " + c, x.cornerBy(5, Plain.TRAP, c, 0), x.corner(Plain.TRAP, orders[k][c], 0));
                CHECK.due(k + " y of " + c, x.cornerBy(5, Plain.TRAP, c, 1), x.corner(Plain.TRAP, orders[k][c], 1));
                CHECK.due(k + " w of " + c, x.cornerBy(5, Plain.TRAP, c, 2), 1);
            }
            CHECK.due("undo", x.undo(), 0);
        }
        CHECK.due("k 24", x.symmetry(0, 24), -1);
        CHECK.due("k -1", x.symmetry(0, -1), -1);
        CHECK.due("no quad", x.symmetry(8, 0), -1);
        CHECK.due("quad -1", x.symmetry(-1, 0), -1);
    }

    private static void side() {
        CornerMaps x = Plain.with("");
        CHECK.three("0 1", what -> x.side(Plain.TRAP, 0, what), 0, 1, 0);
        CHECK.three("1 2", what -> x.side(Plain.TRAP, 1, what), -2, -1, 8);
        CHECK.three("2 3", what -> x.side(Plain.TRAP, 2, what), 0, -1, 2);
        CHECK.three("3 0", what -> x.side(Plain.TRAP, 3, what), -2, 1, 0);
        CHECK.due("side 4", x.side(0, 4, 0), NO);
        CHECK.due("side -1", x.side(0, -1, 0), NO);
        CHECK.due("what 3", x.side(0, 0, 3), NO);
        CHECK.due("what -1", x.side(0, 0, -1), NO);
        CHECK.due("quad 8", x.side(8, 0, 0), NO);
        CHECK.due("quad -1", x.side(-1, 0, 0), NO);
    }

    private static void likeness() {
        CornerMaps x = Plain.with("");
        int[][] due = {
            {Plain.ONE, Plain.ONE, 0, 0}, {Plain.ONE, Plain.SHIFTED, 1, 0}, {Plain.ONE, Plain.TWO, 3, 0},
            {Plain.ONE, Plain.SKEW, 4, 0}, {Plain.ONE, Plain.TRAP, 5, 0}, {Plain.ONE, Plain.DART, 5, 0},
            // To the turned square a shift leads, but by another order; so it does to the crossed one.
            {Plain.ONE, Plain.TURNED, 1, 18}, {Plain.TWO, Plain.BOW, 0, 2},
        };
        for (int[] d : due) {
            CHECK.due("kind " + d[0] + d[1], x.likeness(d[0], d[1], 0), d[2]);
            CHECK.due("order " + d[0] + d[1], x.likeness(d[0], d[1], 1), d[3]);
        }
        CHECK.due("what 2", x.likeness(0, 1, 2), -1);
        CHECK.due("what -1", x.likeness(0, 1, -1), -1);
        CHECK.due("no first", x.likeness(8, 0, 0), -1);
        CHECK.due("no second", x.likeness(0, 8, 0), -1);
        CHECK.due("below", x.likeness(-1, 0, 0), -1);
        CHECK.due("below, too", x.likeness(0, -1, 0), -1);
        CHECK.due("none comes", x.count(2), 5);
    }

    private static void hits() {
        CornerMaps x = Plain.with("");
        CHECK.due("all", x.hits(Plain.M_TRAP, Plain.ONE, Plain.TRAP), 4);
        CHECK.due("one of the same", x.hits(Plain.M_TRAP, Plain.ONE, Plain.ONE), 1);
        CHECK.due("two", x.hits(Plain.M_TURN, Plain.ONE, Plain.ONE), 2);
        CHECK.due("in another order", x.hits(Plain.M_TWICE, Plain.ONE, Plain.BOW), 4);
        CHECK.due("none", x.hits(Plain.M_SHIFT, Plain.ONE, Plain.TURNED), 0);
        CHECK.due("no map", x.hits(5, 0, 0), -1);
        CHECK.due("no quad", x.hits(0, 8, 0), -1);
        CHECK.due("no other", x.hits(0, 0, 8), -1);
        CHECK.due("below", x.hits(-1, 0, 0), -1);
        CHECK.due("below", x.hits(0, -1, 0), -1);
        CHECK.due("below", x.hits(0, 0, -1), -1);
    }

    private static void goesTo() {
        CornerMaps x = Plain.with("");
        CHECK.due("one", x.goesTo(Plain.M_TRAP, Plain.ONE), 1);
        CHECK.due("two, in any order", x.goesTo(Plain.M_TWICE, Plain.ONE), 2);
        CHECK.due("none", x.goesTo(Plain.M_TWICE, Plain.TWO), 0);
        x.power(0, 0);
        CHECK.due("itself and another", x.goesTo(5, Plain.BOW), 2);
        CHECK.due("itself, the first", x.goesTo(5, Plain.ONE), 1);
        CHECK.due("no map", x.goesTo(6, 0), -1);
        CHECK.due("no quad", x.goesTo(0, 8), -1);
        CHECK.due("below", x.goesTo(-1, 0), -1);
        CHECK.due("below, too", x.goesTo(0, -1), -1);
    }

    private static void kept() {
        CornerMaps x = Plain.with("");
        CHECK.due("all of eight", x.kept(Plain.M_TRAP), 255);
        x.inverse(Plain.M_TRAP);
        CHECK.due("none at y = 4", x.kept(5), 255 - 8);
        CHECK.due("no map", x.kept(6), -1);
        CHECK.due("map -1", x.kept(-1), -1);
        CornerMaps y = Script.of("quad a 0 0 1 0 1 1 0 1;quad b 0 -1 1 0 1 1 0 1;quad c 0 0 4 0 3 2 1 2;"
            + "quad d 0 0 1 0 1 1 2 -1;map m a c;");
        CHECK.due("corners on the horizon", y.kept(0), 1 | 4);
        CHECK.due("no quads but the first", Script.of("quad a 0 0 1 0 1 1 0 1;quad b 0 0 4 0 3 2 1 2;map m b a;").kept(0), 3);
        CHECK.due("not the first", Script.of("quad b 0 4 1 0 1 1 0 1;quad a 0 0 1 0 1 1 0 1;quad c 0 0 4 0 3 2 1 2;"
            + "map m c a;").kept(0), 6);
    }

    private static void find() {
        CornerMaps x = Plain.with("");
        CHECK.due("trapezium", x.find(Plain.ONE, Plain.TRAP), Plain.M_TRAP);
        CHECK.due("skew", x.find(Plain.ONE, Plain.SKEW), Plain.M_SKEW);
        CHECK.due("in another order", x.find(Plain.ONE, Plain.BOW), -2);
        CHECK.due("back", x.find(Plain.TRAP, Plain.ONE), -2);
        CHECK.due("itself", x.find(Plain.ONE, Plain.ONE), -2);
        x.make(Plain.TRAP, Plain.ONE);
        x.make(Plain.TRAP, Plain.ONE);
        CHECK.due("the first", x.find(Plain.TRAP, Plain.ONE), 5);
        x.power(0, 0);
        CHECK.due("itself by nothing", x.find(Plain.DART, Plain.DART), 7);
        CHECK.due("no from", x.find(8, 0), -1);
        CHECK.due("no to", x.find(0, 8), -1);
        CHECK.due("below", x.find(-1, 0), -1);
        CHECK.due("below, too", x.find(0, -1), -1);
        CornerMaps y = Script.of("quad a -20 -19 20 -17 19 18 -17 20;quad b 7 20 -20 -13 19 -20 11 13;");
        CHECK.due("LARGE, so none", y.find(0, 1), -2);
    }
}
