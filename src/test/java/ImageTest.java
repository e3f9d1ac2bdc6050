/** Promises 20 to 26, 53, 54 and 60: points and lines by a map, and what is cut. */
public final class ImageTest {
    private static final Check CHECK = new Check();
    private static final long NO = CornerMaps.NO;

    public static void main(String[] args) {
        CornerMaps x = Plain.with("point 0 0 1;point 0 -2 1;point 3 -1 1;point 1 0 0;point 5 -3 3;point -1 1 0;");
        image(x);
        before(x);
        line(x);
        horizon(x);
        cut(x);
        cutSides(x);
        pull(x);
        keepsLine(x);
        cornerBy(x);
        uprightHorizon();
        largeInverse();
        CHECK.end();
    }

    /** Trapezium: 4x + 2y, 4y, y + w. */
    private static void image(CornerMaps x) {
        CHECK.three("1 1 1", what -> x.image(Plain.M_TRAP, 1, 1, 1, what), 3, 2, 1);
        CHECK.three("1 2 3", what -> x.image(Plain.M_TRAP, 1, 2, 3, what), 8, 8, 5);
        CHECK.three("to the horizon", what -> x.image(Plain.M_TRAP, 1, 1, -1, what), 3, 2, 0);
        CHECK.three("x above 0", what -> x.image(Plain.M_TRAP, -5, 0, 0, what), 1, 0, 0);
        CHECK.three("below 0", what -> x.image(Plain.M_TRAP, 1, -3, 2, what), 2, 12, 1);
        CHECK.three("bounds", what -> x.image(Plain.M_TWICE, 9999, -9999, 1, what), 19998, -19998, 1);
        CHECK.due("0 0 0", x.image(0, 0, 0, 0, 0), NO);
        CHECK.due("beyond x", x.image(0, 10000, 0, 1, 0), NO);
        CHECK.due("beyond y", x.image(0, 0, -10000, 1, 0), NO);
        CHECK.due("beyond w", x.image(0, 0, 0, Integer.MAX_VALUE, 0), NO);
        CHECK.due("what 3", x.image(0, 1, 1, 1, 3), NO);
        CHECK.due("what -1", x.image(0, 1, 1, 1, -1), NO);
        CHECK.due("no map", x.image(5, 1, 1, 1, 0), NO);
        CHECK.due("map -1", x.image(-1, 1, 1, 1, 0), NO);
    }

    private static void before(CornerMaps x) {
        CHECK.three("3 2 1", what -> x.before(Plain.M_TRAP, 3, 2, 1, what), 1, 1, 1);
        CHECK.three("8 8 5", what -> x.before(Plain.M_TRAP, 8, 8, 5, what), 1, 2, 3);
        CHECK.three("from the horizon", what -> x.before(Plain.M_TRAP, 3, 2, 0, what), -1, -1, 1);
        CHECK.three("half", what -> x.before(Plain.M_TWICE, 1, 0, 1, what), 1, 0, 2);
        CHECK.due("0 0 0", x.before(0, 0, 0, 0, 0), NO);
        CHECK.due("beyond", x.before(0, 10000, 0, 1, 0), NO);
        CHECK.due("beyond", x.before(0, 0, 10000, 1, 0), NO);
        CHECK.due("beyond", x.before(0, 0, 0, -10000, 0), NO);
        CHECK.due("what 3", x.before(0, 1, 1, 1, 3), NO);
        CHECK.due("no map", x.before(5, 1, 1, 1, 0), NO);
        CHECK.due("map -1", x.before(-1, 1, 1, 1, 0), NO);
    }

    private static void line(CornerMaps x) {
        CHECK.three("y = 0 stays", what -> x.line(Plain.M_TRAP, 0, 5, 0, what), 0, 1, 0);
        CHECK.three("y = 1 becomes y = 2", what -> x.line(Plain.M_TRAP, 0, 1, -1, what), 0, -1, 2);
        CHECK.three("x = 0 becomes y = 2 x", what -> x.line(Plain.M_TRAP, 1, 0, 0, what), -2, 1, 0);
        CHECK.three("the horizon goes far", what -> x.line(Plain.M_TRAP, 0, 1, 1, what), 0, 0, 1);
        CHECK.three("x + y = 1 shifted", what -> x.line(Plain.M_SHIFT, 1, 1, -1, what), -1, -1, 5);
        CHECK.due("0 0 0", x.line(0, 0, 0, 0, 0), NO);
        CHECK.due("beyond", x.line(0, 10000, 0, 1, 0), NO);
        CHECK.due("beyond", x.line(0, 0, -10000, 1, 0), NO);
        CHECK.due("beyond", x.line(0, 0, 1, 10000, 0), NO);
        CHECK.due("what 3", x.line(0, 1, 1, 1, 3), NO);
        CHECK.due("what -1", x.line(0, 1, 1, 1, -1), NO);
        CHECK.due("no map", x.line(5, 1, 1, 1, 0), NO);
    }

    private static void horizon(CornerMaps x) {
        CHECK.three("horizon", what -> x.horizon(Plain.M_TRAP, what), 0, 1, 1);
        CHECK.three("vanishing", what -> x.vanishing(Plain.M_TRAP, what), 0, -1, 4);
        CHECK.three("horizon afar", what -> x.horizon(Plain.M_SKEW, what), 0, 0, 1);
        CHECK.three("vanishing afar", what -> x.vanishing(Plain.M_SKEW, what), 0, 0, 1);
        for (int what : new int[] {-1, 3}) {
            CHECK.due("horizon " + what, x.horizon(0, what), NO);
            CHECK.due("vanishing " + what, x.vanishing(0, what), NO);
        }
        for (int m : new int[] {-1, 5}) {
            CHECK.due("horizon of map " + m, x.horizon(m, 0), NO);
            CHECK.due("vanishing of map " + m, x.vanishing(m, 0), NO);
        }
    }

    /** The horizon is y = -1. */
    private static void cut(CornerMaps x) {
        CHECK.due("across", x.cut(Plain.M_TRAP, 0, 1), 1);
        CHECK.due("back", x.cut(Plain.M_TRAP, 1, 0), 1);
        CHECK.due("an end", x.cut(Plain.M_TRAP, 0, 2), 1);
        CHECK.due("both ends", x.cut(Plain.M_TRAP, 2, 4), 1);
        CHECK.due("one point on it", x.cut(Plain.M_TRAP, 2, 2), 1);
        CHECK.due("one point off it", x.cut(Plain.M_TRAP, 0, 0), 0);
        CHECK.due("afar", x.cut(Plain.M_TWICE, 0, 1), 0);
        CHECK.due("not finite", x.cut(Plain.M_TRAP, 3, 0), -2);
        CHECK.due("not finite", x.cut(Plain.M_TRAP, 0, 3), -2);
        CHECK.due("no point", x.cut(Plain.M_TRAP, 3, 6), -1);
        CHECK.due("no point", x.cut(Plain.M_TRAP, -1, 3), -1);
        CHECK.due("no map", x.cut(5, 0, 1), -1);
        CHECK.due("no map", x.cut(-1, 3, 3), -1);
    }

    private static void cutSides(CornerMaps x) {
        CornerMaps y = Script.of(Plain.QUADS.replace("quad skew 0 0 1 0 2 1 1 1;", "quad low 0 0 2 -2 3 -2 1 0;")
            + "map trap one trap;");
        CHECK.due("above it", y.cutSides(0, Plain.ONE), 0);
        CHECK.due("two sides", y.cutSides(0, Plain.SKEW), 1 | 4);
        CHECK.due("no such quad", y.cutSides(0, 8), -1);
        CHECK.due("no such map", y.cutSides(1, 0), -1);
        CHECK.due("below", y.cutSides(-1, 0), -1);
        CHECK.due("below", y.cutSides(0, -1), -1);
        CornerMaps z = Script.of("quad a 0 0 1 0 1 1 0 1;quad b 0 0 4 0 3 2 1 2;quad c 0 0 1 -1 2 0 1 3;"
            + "quad d 5 -1 4 -1 4 -2 5 -3;quad e 0 0 0 -2 2 -3 3 -2;map f a b;");
        CHECK.due("a corner on it", z.cutSides(0, 2), 1 | 2);
        CHECK.due("a side on it", z.cutSides(0, 3), 1 | 2 | 8);
        CHECK.due("first and last", z.cutSides(0, 4), 1 | 8);
        CHECK.due("by none", x.cutSides(Plain.M_TURN, 0), 0);
    }

    /** The horizon is x = -1; by 4 x, 2 x + 4 y, x + w. */
    private static void uprightHorizon() {
        CornerMaps x = Script.of("quad one 0 0 1 0 1 1 0 1;quad trap 0 0 2 1 2 3 0 4;quad low 0 0 0 1 -2 1 -2 -1;"
            + "quad on -1 0 3 0 3 3 -1 3;quad side -3 0 3 1 3 4 -3 3;map t one trap;point 0 0 1;point -2 5 1;point -1 7 1;"
            + "point 5 -1 1;point -3 1 3;");
        CHECK.three("horizon", what -> x.horizon(0, what), 1, 0, 1);
        CHECK.three("vanishing", what -> x.vanishing(0, what), -1, 0, 4);
        CHECK.due("across", x.cut(0, 0, 1), 1);
        CHECK.due("an end", x.cut(0, 0, 2), 1);
        CHECK.due("another end", x.cut(0, 4, 3), 1);
        CHECK.due("on one side of it", x.cut(0, 0, 3), 0);
        int[] sides = {0, 0, 2 | 8, 1 | 4 | 8, 1 | 4};
        int[] shapes = {0, 0, 2, -2, 2};
        for (int q = 0; q < 5; q++) {
            CHECK.due("sides " + q, x.cutSides(0, q), sides[q]);
            CHECK.due("shape " + q, x.shapeBy(0, q), shapes[q]);
        }
        CHECK.due("kept", x.kept(0), 1 | 2 | 4 | 16);
        CHECK.due("aren't finite", x.points(0, 1), 2);
        CHECK.due("upright sides stay parallel", x.parallel(0, 0), 2);
        CHECK.due("level ones come parallel", x.parallel(x.inverse(0), 1), 3);
    }

    private static void pull(CornerMaps x) {
        CHECK.three("x = 0", what -> x.pull(Plain.M_TRAP, 1, 0, 0, what), 2, 1, 0);
        CHECK.three("y = 2", what -> x.pull(Plain.M_TRAP, 0, 1, -2, what), 0, -1, 1);
        CHECK.three("far line", what -> x.pull(Plain.M_TRAP, 0, 0, 9, what), 0, 1, 1);
        CHECK.due("0 0 0", x.pull(0, 0, 0, 0, 0), NO);
        CHECK.due("beyond", x.pull(0, 10000, 0, 1, 0), NO);
        CHECK.due("beyond", x.pull(0, 0, -10000, 1, 0), NO);
        CHECK.due("beyond", x.pull(0, 0, 1, -10000, 0), NO);
        CHECK.due("what 3", x.pull(0, 1, 1, 1, 3), NO);
        CHECK.due("what -1", x.pull(0, 1, 1, 1, -1), NO);
        CHECK.due("no map", x.pull(5, 1, 1, 1, 0), NO);
        CHECK.due("map -1", x.pull(-1, 1, 1, 1, 0), NO);
    }

    private static void keepsLine(CornerMaps x) {
        CHECK.due("y = 0", x.keepsLine(Plain.M_TRAP, 0, -7, 0), 1);
        CHECK.due("x = 0", x.keepsLine(Plain.M_TRAP, 1, 0, 0), 0);
        CHECK.due("along the shift", x.keepsLine(Plain.M_SHIFT, 2, -6, 8), 1);
        CHECK.due("across the shift", x.keepsLine(Plain.M_SHIFT, 1, 0, 0), 0);
        CHECK.due("far line", x.keepsLine(Plain.M_SHIFT, 0, 0, -3), 1);
        CHECK.due("0 0 0", x.keepsLine(0, 0, 0, 0), -1);
        CHECK.due("beyond", x.keepsLine(0, 10000, 0, 0), -1);
        CHECK.due("beyond", x.keepsLine(0, 0, -10000, 0), -1);
        CHECK.due("beyond", x.keepsLine(0, 0, 0, 10000), -1);
        CHECK.due("no map", x.keepsLine(5, 1, 0, 0), -1);
        CHECK.due("map -1", x.keepsLine(-1, 1, 0, 0), -1);
    }

    private static void cornerBy(CornerMaps x) {
        CHECK.three("corner 2", what -> x.cornerBy(Plain.M_TRAP, Plain.ONE, 2, what), 3, 2, 1);
        CHECK.three("of two", what -> x.cornerBy(Plain.M_TRAP, Plain.TWO, 2, what), 12, 8, 3);
        CHECK.due("corner 4", x.cornerBy(0, 0, 4, 0), NO);
        CHECK.due("corner -1", x.cornerBy(0, 0, -1, 0), NO);
        CHECK.due("what 3", x.cornerBy(0, 0, 0, 3), NO);
        CHECK.due("what -1", x.cornerBy(0, 0, 0, -1), NO);
        CHECK.due("quad 8", x.cornerBy(0, 8, 0, 0), NO);
        CHECK.due("quad -1", x.cornerBy(0, -1, 0, 0), NO);
        CHECK.due("map 5", x.cornerBy(5, 0, 0, 0), NO);
        CHECK.due("map -1", x.cornerBy(-1, 0, 0, 0), NO);
    }

    private static void largeInverse() {
        CornerMaps x = Script.of("quad a 14 17 -7 12 18 -16 -1 -20;");
        x.symmetry(0, 12);
        CHECK.due("before", x.before(0, 1, 2, 3, 0), Check.FAR_OFF);
        CHECK.due("line", x.line(0, 1, 2, 3, 1), Check.FAR_OFF);
        CHECK.due("no point ahead", x.before(0, 0, 0, 0, 0), NO);
        CHECK.due("no what ahead", x.line(0, 1, 2, 3, 3), NO);
        // Vanishing and pull have their numbers all the same.
        long a = x.vanishing(0, 0);
        long b = x.vanishing(0, 1);
        long c = x.vanishing(0, 2);
        for (int far = 0; far < 2; far++) {
            int f = far;
            long sum = a * x.image(0, 1 - f, f, 0, 0) + b * x.image(0, 1 - f, f, 0, 1) + c * x.image(0, 1 - f, f, 0, 2);
            CHECK.due("on it", sum, 0);
        }
        CHECK.due("pull has numbers", x.pull(0, 0, 0, 1, 0), x.horizon(0, 0));
    }
}
