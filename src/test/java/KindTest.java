/** Promises 27 to 34, 59, 61, 65 to 68 and 72: what a map is, alone and among others. */
public final class KindTest {
    private static final Check CHECK = new Check();

    /** Maps of all kinds: 0 nothing, 1 shift, 2 turned and mirrored, 3 twice, grown and turned, 4 skew, 5. */
    private static final String ALL = "quad one 0 0 1 0 1 1 0 1;quad shift 3 1 4 1 4 2 3 2;quad turned 0 0 0 1 -1 1 -1 0;"
        + "quad mirr 0 0 0 1 1 1 1 0;quad two 0 0 2 0 2 2 0 2;quad grown 0 0 1 2 -1 3 -2 1;quad skew 0 0 1 0 2 1 1 1;"
        + "quad trap 0 0 4 0 3 2 1 2;"
        + "map none one one;map shift one shift;map turned one turned;map mirr one mirr;map two one two;"
        + "map grown one grown;map skew one skew;map trap one trap;";

    public static void main(String[] args) {
        kind();
        turn();
        order();
        same();
        commute();
        undoes();
        staysAndPoints();
        partner();
        scale();
        farthest();
        biggest();
        kindsAndPairs();
        size();
        CHECK.end();
    }

    private static void kind() {
        CornerMaps x = Script.of(ALL);
        int[] kinds = {0, 1, 2, 2, 3, 3, 4, 5};
        for (int m = 0; m < 8; m++) {
            CHECK.due("kind " + m, x.kind(m), kinds[m]);
        }
        CHECK.due("no map", x.kind(8), -1);
        CHECK.due("map -1", x.kind(-1), -1);
        x.inverse(4);
        CHECK.due("half", x.kind(8), 3);
        x.product(1, 2);
        CHECK.due("turned and shifted", x.kind(9), 2);
        CornerMaps along = Grown.with("");
        along.inverse(Grown.UP);
        CHECK.due("to the right alone", along.kind(Grown.RIGHT), 1);
        CHECK.due("up alone", along.kind(Grown.UP), 1);
        CHECK.due("down alone", along.kind(6), 1);
        CHECK.due("sheared", along.kind(Grown.SHEAR), 4);
        // Half a turn keeps all lengths, and so does what mirrors one of the two numbers.
        CornerMaps signs = Script.of("quad a 0 0 1 0 1 1 0 1;quad b 0 0 -1 0 -1 -1 0 -1;quad c 0 0 1 0 1 -1 0 -1;"
            + "quad d 0 0 -1 0 -1 1 0 1;quad e 0 0 0 -1 -1 -1 -1 0;map b a b;map c a c;map d a d;map e a e;");
        for (int m = 0; m < 4; m++) {
            CHECK.due("lengths are kept " + m, signs.kind(m), 2);
            CHECK.due("by 1 " + m, signs.scale(m, 0), 1);
        }
        // Stretched across, not along: lengths of two ways grow unlike.
        CornerMaps y = Script.of("quad a 0 0 1 0 1 1 0 1;quad b 0 0 2 0 2 1 0 1;quad c 0 0 5 0 8 4 3 4;"
            + "quad d 0 0 -1 0 -1 -1 0 -1;map s a b;map r a c;map h a d;");
        CHECK.due("stretched", y.kind(0), 4);
        CHECK.due("a rhomb", y.kind(1), 4);
        CHECK.due("half a turn", y.kind(2), 2);
        y.product(0, 0);
        y.inverse(0);
        y.product(3, 4);
        CHECK.due("stretched again and back", y.kind(5), 4);
    }

    private static void turn() {
        CornerMaps x = Script.of(ALL);
        CHECK.due("nothing", x.turn(0), 1);
        CHECK.due("turned", x.turn(2), 1);
        CHECK.due("mirrored", x.turn(3), -1);
        CHECK.due("trapezium", x.turn(7), 1);
        CHECK.due("no map", x.turn(8), 0);
        CHECK.due("map -1", x.turn(-1), 0);
        // x, y to 2/x, y/x; to y/x, 1/x; and back.
        CornerMaps z = Script.of("quad a 1 0 2 0 2 2 1 1;quad b 2 0 1 0 1 1 2 1;quad c 1 0 1 2 -1 0 -1 1;"
            + "quad d 0 1 2 1 0 -1 -1 -1;map f a b;map g c d;map h d c;");
        CHECK.due("of the last numbers of rows", z.turn(0), -1);
        CHECK.due("all around", z.turn(1), 1);
        CHECK.due("and back", z.turn(2), 1);
        CHECK.due("its order", z.order(1), 3);
        CornerMaps y = Script.of("quad a 0 0 1 0 1 1 0 1;quad b 0 0 10 0 10 10 0 10;quad c 0 0 0 1 1 1 1 0;"
            + "map t a b;map m a c;");
        y.power(0, 6);
        CHECK.due("a million", y.turn(2), 1);
        y.product(1, 2);
        CHECK.due("a million, mirrored", y.turn(3), -1);
        y.power(0, 7);
        CHECK.due("ten millions", y.turn(4), 2);
        y.product(4, 1);
        CHECK.due("ten millions, mirrored", y.turn(5), 2);
        y.inverse(5);
        CHECK.due("last number ten millions", y.turn(6), 2);
    }

    private static void order() {
        CornerMaps x = Script.of(ALL);
        int[] orders = {1, -2, 4, 2, -2, -2, -2, -2};
        for (int m = 0; m < 8; m++) {
            CHECK.due("order " + m, x.order(m), orders[m]);
        }
        CHECK.due("no map", x.order(8), -1);
        CHECK.due("map -1", x.order(-1), -1);
        x.symmetry(7, 3);
        CHECK.due("three corners around", x.order(8), 3);
        x.symmetry(7, 9);
        CHECK.due("all four around", x.order(9), 4);
        CornerMaps six = Script.of("quad a 1 0 1 1 0 1 -1 0;quad b 1 1 0 1 -1 0 -1 -1;map s a b;");
        CHECK.due("six of a hexagon", six.order(0), 6);
        // The third power is NOTHING, but the second one is LARGE.
        CornerMaps y = Script.of("quad a 14 17 -7 12 18 -16 -1 -20;");
        y.symmetry(0, 12);
        CHECK.due("a LARGE power ahead", y.order(0), -2);
    }

    private static void same() {
        CornerMaps x = Script.of(ALL);
        x.power(2, 4);
        CHECK.due("nothing", x.same(0, 8), 1);
        CHECK.due("itself", x.same(7, 7), 1);
        CHECK.due("others", x.same(0, 1), 0);
        CHECK.due("no first", x.same(9, 0), -1);
        CHECK.due("no second", x.same(0, 9), -1);
        CHECK.due("below", x.same(-1, 0), -1);
        CHECK.due("below, too", x.same(0, -1), -1);
    }

    private static void commute() {
        CornerMaps x = Script.of(ALL);
        CHECK.due("turned and grown", x.commute(2, 5), 1);
        CHECK.due("turned and mirrored", x.commute(2, 3), 0);
        CHECK.due("itself", x.commute(7, 7), 1);
        CHECK.due("no first", x.commute(8, 0), -1);
        CHECK.due("no second", x.commute(0, 8), -1);
        CHECK.due("below", x.commute(-1, 0), -1);
        CHECK.due("below, too", x.commute(0, -1), -1);
        CornerMaps y = Script.of("quad a 0 0 1 0 1 1 0 1;quad b 0 0 10 0 10 10 0 10;quad c 1 0 2 0 2 1 1 1;"
            + "map t a b;map s a c;");
        y.power(0, 9);
        y.power(0, 8);
        CHECK.due("LARGE products", y.commute(2, 3), 1);
        CHECK.due("LARGE product", y.product(2, 3), -2);
        CHECK.due("unlike", y.commute(2, 1), 0);
    }

    private static void undoes() {
        CornerMaps x = Script.of(ALL);
        x.inverse(7);
        CHECK.due("inverse", x.undoes(7, 8), 1);
        CHECK.due("the other way", x.undoes(8, 7), 1);
        CHECK.due("mirrored twice", x.undoes(3, 3), 1);
        CHECK.due("turned twice", x.undoes(2, 2), 0);
        CHECK.due("others", x.undoes(1, 4), 0);
        CHECK.due("no first", x.undoes(9, 0), -1);
        CHECK.due("no second", x.undoes(0, 9), -1);
        CHECK.due("below", x.undoes(-1, 0), -1);
        CHECK.due("below, too", x.undoes(0, -1), -1);
    }

    private static void staysAndPoints() {
        CornerMaps x = Script.of(ALL + "point 0 0 1;point 3 0 0;point 1 1 1;point 0 1 0;point 5 -1 1;point 0 -1 1;");
        CHECK.due("corner", x.stays(7, 0), 1);
        CHECK.due("afar", x.stays(7, 1), 1);
        CHECK.due("moves", x.stays(7, 2), 0);
        CHECK.due("afar, moves", x.stays(7, 3), 0);
        CHECK.due("all points afar stay", x.stays(1, 3), 1);
        CHECK.due("no map", x.stays(8, 0), -1);
        CHECK.due("no point", x.stays(0, 6), -1);
        CHECK.due("below", x.stays(-1, 0), -1);
        CHECK.due("below, too", x.stays(0, -1), -1);
        CHECK.due("stay", x.points(7, 0), 2);
        CHECK.due("aren't finite", x.points(7, 1), 3);
        CHECK.due("weren't finite", x.points(7, 2), 1);
        CHECK.due("all stay", x.points(0, 0), 6);
        CHECK.due("afar stays afar", x.points(0, 1), 2);
        CHECK.due("none comes", x.points(0, 2), 0);
        CHECK.due("what 3", x.points(0, 3), -1);
        CHECK.due("what -1", x.points(0, -1), -1);
        CHECK.due("no map", x.points(8, 0), -1);
        CHECK.due("map -1", x.points(-1, 0), -1);
    }

    private static void partner() {
        CornerMaps x = Script.of(ALL);
        CHECK.due("nothing", x.partner(0), 0);
        CHECK.due("mirrored", x.partner(3), 3);
        CHECK.due("none", x.partner(7), -2);
        x.inverse(7);
        x.inverse(7);
        CHECK.due("the first", x.partner(7), 8);
        CHECK.due("of the second", x.partner(9), 7);
        CHECK.due("no map", x.partner(10), -1);
        CHECK.due("map -1", x.partner(-1), -1);
    }

    private static void scale() {
        CornerMaps x = Script.of(ALL);
        int[] above = {1, 1, 1, 1, 4, 5};
        for (int m = 0; m < 6; m++) {
            CHECK.due("above " + m, x.scale(m, 0), above[m]);
            CHECK.due("below " + m, x.scale(m, 1), 1);
        }
        x.inverse(5);
        CHECK.due("a fifth, above", x.scale(8, 0), 1);
        CHECK.due("a fifth, below", x.scale(8, 1), 5);
        x.inverse(4);
        x.product(9, 5);
        CHECK.due("five by four", x.scale(10, 0), 5);
        CHECK.due("five by four", x.scale(10, 1), 4);
        CHECK.due("skew", x.scale(6, 0), -2);
        CHECK.due("trapezium", x.scale(7, 1), -2);
        CHECK.due("part 2", x.scale(6, 2), CornerMaps.NO);
        CHECK.due("part -1", x.scale(0, -1), CornerMaps.NO);
        CHECK.due("no map", x.scale(11, 0), CornerMaps.NO);
        CHECK.due("map -1", x.scale(-1, 0), CornerMaps.NO);
    }

    private static void farthest() {
        CornerMaps x = Script.of(ALL);
        CHECK.due("no points", x.farthest(7), 0);
        x.tell(1, 1, 1);
        CHECK.due("3 2 1", x.farthest(7), 3);
        x.tell(-3, -2, 1);
        CHECK.due("-16 -8 -1", x.farthest(7), 16);
        x.tell(2, 4, 4);
        CHECK.due("16 16 8, but reduced", x.farthest(7), 16);
        x.tell(1, 2, 9999);
        CHECK.due("the last number", x.farthest(0), 9999);
        CHECK.due("no map", x.farthest(8), CornerMaps.NO);
        CHECK.due("map -1", x.farthest(-1), CornerMaps.NO);
    }

    private static void biggest() {
        CornerMaps x = Script.of(ALL);
        CHECK.due("most", x.biggest(0), 7);
        CHECK.due("least", x.biggest(1), 0);
        x.inverse(7);
        CHECK.due("most", x.biggest(0), 8);
        x.power(8, 1);
        CHECK.due("the first of two", x.biggest(0), 8);
        x.drop(0);
        CHECK.due("the first that is least", x.biggest(1), 1);
        CHECK.due("what 2", x.biggest(2), -1);
        CHECK.due("what -1", x.biggest(-1), -1);
        CornerMaps y = new CornerMaps();
        CHECK.due("no maps", y.biggest(0), -2);
        CHECK.due("no maps", y.biggest(1), -2);
        CHECK.due("no such what ahead", y.biggest(2), -1);
    }

    private static void kindsAndPairs() {
        CornerMaps x = Script.of(ALL);
        int[] kinds = {1, 1, 2, 2, 1, 1};
        for (int kind = 0; kind < 6; kind++) {
            CHECK.due("kinds " + kind, x.kinds(kind), kinds[kind]);
        }
        CHECK.due("kind 6", x.kinds(6), -1);
        CHECK.due("kind -1", x.kinds(-1), -1);
        CornerMaps y = Plain.with("");
        // Twice goes with the turn and with the skew, the trapezium with the skew.
        CHECK.due("commute", y.pairs(0), 3);
        CHECK.due("inverse", y.pairs(1), 0);
        CHECK.due("same", y.pairs(2), 0);
        y.inverse(Plain.M_TRAP);
        y.inverse(Plain.M_TRAP);
        CHECK.due("both inverses with the trapezium, with the skew, with one another", y.pairs(0), 3 + 2 + 2 + 1);
        CHECK.due("inverse", y.pairs(1), 2);
        CHECK.due("same", y.pairs(2), 1);
        CHECK.due("what 3", y.pairs(3), -1);
        CHECK.due("what -1", y.pairs(-1), -1);
        CHECK.due("no maps", new CornerMaps().pairs(0), 0);
    }

    private static void size() {
        CornerMaps x = Script.of(ALL);
        CHECK.due("one", x.size(0), 1);
        CHECK.due("three", x.size(1), 3);
        CHECK.due("four", x.size(7), 4);
        x.inverse(7);
        CHECK.due("eight", x.size(8), 8);
        CHECK.due("no map", x.size(9), -1);
        CHECK.due("map -1", x.size(-1), -1);
        CornerMaps y = Script.of("quad a 0 0 1 0 1 1 0 1;quad b -20 -7 -19 -7 -19 -6 -20 -6;map s a b;");
        CHECK.due("without its sign", y.size(0), 20);
    }
}
