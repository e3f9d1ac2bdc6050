/** Promises 11 to 19: maps made and dropped, points told and moved, all undone. */
public final class MadeTest {
    private static final Check CHECK = new Check();

    /** Quads far apart: maps between them are LARGE, their own symmetries are, too. */
    private static final String GREAT = "quad a -20 -19 20 -17 19 18 -17 20;quad b 7 20 -20 -13 19 -20 11 13;";

    public static void main(String[] args) {
        make();
        square();
        product();
        inverse();
        power();
        large();
        full();
        drop();
        tell();
        moves();
        movesBeyond();
        undo();
        undoSixteen();
        CHECK.end();
    }

    private static void nine(String what, CornerMaps x, int m, int... want) {
        for (int i = 0; i < 9; i++) {
            CHECK.due(what + " " + i, x.map(m, i / 3, i % 3), want[i]);
        }
    }

    private static void make() {
        CornerMaps x = Plain.with("");
        CHECK.due("make", x.make(Plain.TRAP, Plain.ONE), 5);
        nine("trap to one", x, 5, 2, -1, 0, 0, 2, 0, 0, -2, 8);
        CHECK.due("make of the same", x.make(Plain.DART, Plain.DART), 6);
        nine("nothing", x, 6, 1, 0, 0, 0, 1, 0, 0, 0, 1);
        CHECK.due("make shift", x.make(Plain.ONE, Plain.SHIFTED), 7);
        nine("shift", x, 7, 1, 0, 3, 0, 1, 1, 0, 0, 1);
        CHECK.due("to undo", x.count(5), 3);
        CHECK.due("no such from", x.make(8, 0), -1);
        CHECK.due("no such to", x.make(0, 8), -1);
        CHECK.due("below", x.make(0, -1), -1);
        CHECK.due("below, too", x.make(-1, 0), -1);
        CHECK.due("none came", x.count(2), 8);
        CHECK.due("nothing to undo of it", x.count(5), 3);
    }

    private static void square() {
        CornerMaps x = Plain.with("");
        CHECK.due("square", x.square(Plain.ONE, 20), 5);
        nine("by 20", x, 5, 20, 0, 0, 0, 20, 0, 0, 0, 1);
        CHECK.due("square of one by 1", x.square(Plain.ONE, 1), 6);
        nine("by 1", x, 6, 1, 0, 0, 0, 1, 0, 0, 0, 1);
        CHECK.due("square of the trapezium", x.square(Plain.TRAP, 2), 7);
        nine("trapezium by 2", x, 7, 2, -1, 0, 0, 2, 0, 0, -1, 4);
        CHECK.due("by 0", x.square(0, 0), -1);
        CHECK.due("by 21", x.square(0, 21), -1);
        CHECK.due("no quad", x.square(8, 1), -1);
        CHECK.due("no quad below", x.square(-1, 1), -1);
        CHECK.due("maps", x.count(2), 8);
    }

    private static void product() {
        CornerMaps x = Plain.with("");
        CHECK.due("shift, then twice", x.product(Plain.M_TWICE, Plain.M_SHIFT), 5);
        nine("the second one first", x, 5, 2, 0, 6, 0, 2, 2, 0, 0, 1);
        CHECK.due("twice, then shift", x.product(Plain.M_SHIFT, Plain.M_TWICE), 6);
        nine("the other way", x, 6, 2, 0, 3, 0, 2, 1, 0, 0, 1);
        CHECK.due("with itself", x.product(Plain.M_TRAP, Plain.M_TRAP), 7);
        nine("trapezium twice", x, 7, 16, 16, 0, 0, 16, 0, 0, 5, 1);
        CHECK.due("no first", x.product(8, 0), -1);
        CHECK.due("no second", x.product(0, 8), -1);
        CHECK.due("below", x.product(-1, 0), -1);
        CHECK.due("below, too", x.product(0, -1), -1);
    }

    private static void inverse() {
        CornerMaps x = Plain.with("");
        CHECK.due("inverse", x.inverse(Plain.M_TRAP), 5);
        nine("of the trapezium", x, 5, 2, -1, 0, 0, 2, 0, 0, -2, 8);
        CHECK.due("inverse of twice", x.inverse(Plain.M_TWICE), 6);
        nine("half", x, 6, 1, 0, 0, 0, 1, 0, 0, 0, 2);
        CHECK.due("inverse of the turn", x.inverse(Plain.M_TURN), 7);
        nine("turn right", x, 7, 0, 1, 0, -1, 0, 0, 0, 0, 1);
        CHECK.due("no map", x.inverse(8), -1);
        CHECK.due("no map below", x.inverse(-1), -1);
    }

    private static void power() {
        CornerMaps x = Plain.with("");
        CHECK.due("0 times", x.power(Plain.M_TRAP, 0), 5);
        nine("nothing", x, 5, 1, 0, 0, 0, 1, 0, 0, 0, 1);
        CHECK.due("once", x.power(Plain.M_TRAP, 1), 6);
        CHECK.due("itself", x.same(6, Plain.M_TRAP), 1);
        CHECK.due("12 times", x.power(Plain.M_TWICE, 12), 7);
        nine("4096", x, 7, 4096, 0, 0, 0, 4096, 0, 0, 0, 1);
        CHECK.due("thrice the turn", x.power(Plain.M_TURN, 3), 8);
        nine("turn right", x, 8, 0, 1, 0, -1, 0, 0, 0, 0, 1);
        CHECK.due("12 times the shift", x.power(Plain.M_SHIFT, 12), 9);
        nine("36 12", x, 9, 1, 0, 36, 0, 1, 12, 0, 0, 1);
        CHECK.due("13", x.power(0, 13), -1);
        CHECK.due("-1", x.power(0, -1), -1);
        CHECK.due("no map", x.power(10, 0), -1);
        CHECK.due("no map below", x.power(-1, 1), -1);
    }

    private static void large() {
        CornerMaps x = Script.of(GREAT + "quad c 0 0 1 0 1 1 0 1;quad d 0 0 20 0 20 20 0 20;"
            + "quad e 0 0 1 1 0 2 -1 1;map f c d;map g c e;");
        CHECK.due("make", x.make(0, 1), -2);
        CHECK.due("none came", x.count(2), 2);
        CHECK.due("nothing to undo", x.count(5), 0);
        CHECK.due("400", x.power(0, 2), 2);
        CHECK.due("160000", x.power(2, 2), 3);
        CHECK.due("64000000", x.product(3, 2), 4);
        CHECK.due("64000000", x.size(4), 64000000);
        CHECK.due("1280000000", x.product(4, 0), -2);
        CHECK.due("20 to the 12th", x.power(0, 12), -2);
        CHECK.due("160000 to the 2nd", x.power(3, 2), -2);
        CHECK.due("20 to the 6th", x.power(0, 6), 5);
        CHECK.due("the same", x.same(4, 5), 1);
        CHECK.due("small again", x.inverse(5), 6);
        CHECK.due("20 to the -6th by 20 to the 6th", x.product(5, 6), 7);
        CHECK.due("nothing", x.kind(7), 0);
        CHECK.due("no such n ahead of large", x.power(3, 13), -1);
        // A turn of three corners: the third power is NOTHING, but the second one is LARGE.
        CornerMaps z = Script.of("quad a 14 17 -7 12 18 -16 -1 -20;");
        CHECK.due("turn of three", z.symmetry(0, 12), 0);
        CHECK.due("once", z.power(0, 1), 1);
        CHECK.due("twice", z.power(0, 2), -2);
        CHECK.due("thrice", z.power(0, 3), -2);
        CHECK.due("its inverse", z.inverse(0), -2);
        boolean seen = false;
        CornerMaps y = Script.of(GREAT);
        for (int k = 0; k < 24; k++) {
            seen |= y.symmetry(0, k) == -2;
        }
        CHECK.due("a LARGE symmetry", seen ? 1 : 0, 1);
    }

    private static void full() {
        CornerMaps x = Plain.with("");
        for (int m = 5; m < 16; m++) {
            CHECK.due("map " + m, x.power(0, 0), m);
        }
        CHECK.due("make 17th", x.make(0, 1), -3);
        CHECK.due("square 17th", x.square(0, 1), -3);
        CHECK.due("product 17th", x.product(0, 1), -3);
        CHECK.due("inverse 17th", x.inverse(0), -3);
        CHECK.due("power 17th", x.power(0, 2), -3);
        CHECK.due("symmetry 17th", x.symmetry(0, 1), -3);
        CHECK.due("no such ahead", x.make(9, 0), -1);
        CHECK.due("sixteen", x.count(2), 16);
        CHECK.due("eleven to undo", x.count(5), 11);
        fullOfAll(x);
        CornerMaps y = Script.of(GREAT + "quad c 0 0 1 0 1 1 0 1;");
        for (int m = 0; m < 16; m++) {
            y.make(2, 2);
        }
        CHECK.due("LARGE ahead of full", y.make(0, 1), -2);
        CHECK.due("full", y.make(2, 2), -3);
    }

    /** All that goes through all maps, quads and points, with no place left free. */
    private static void fullOfAll(CornerMaps x) {
        for (int p = 0; p < 8; p++) {
            CHECK.due("point " + p, x.tell(p, 1, 1), p);
        }
        CHECK.due("finite", x.count(4), 8);
        CHECK.due("farthest", x.farthest(Plain.M_TWICE), 14);
        CHECK.due("stay", x.points(15, 0), 8);
        CHECK.due("moves", x.moves(Plain.M_SHIFT), 0);
        CHECK.due("leads", x.leads(0, 7, 1), -2);
        CHECK.due("find", x.find(Plain.TRAP, Plain.ONE), -2);
        CHECK.due("partner", x.partner(Plain.M_TRAP), -2);
        CHECK.due("kept", x.kept(Plain.M_TRAP), 255);
        CHECK.due("goes to", x.goesTo(Plain.M_TRAP, Plain.TRAP), 0);
        CHECK.due("pairs", x.pairs(2), 55);
        CHECK.due("unlike", x.generated(1), 6);
        CHECK.due("biggest", x.biggest(0), Plain.M_TRAP);
        CHECK.due("kinds", x.kinds(0), 11);
        CHECK.due("no word", x.word(Plain.M_TRAP, -1), -2);
        CHECK.due("word", x.word(5, -1), 1);
        CHECK.due("drop", x.drop(0), 15);
        CHECK.due("back", x.undo(), 15);
        CHECK.due("all there", x.count(2), 16);
        nine("the first", x, 0, 4, 2, 0, 0, 4, 0, 0, 1, 1);
        nine("the last", x, 15, 1, 0, 0, 0, 1, 0, 0, 0, 1);
    }

    private static void drop() {
        CornerMaps x = Plain.with("");
        CHECK.due("drop", x.drop(Plain.M_TWICE), 4);
        CHECK.due("shift is one less", x.map(1, 0, 2), 3);
        CHECK.due("the last, too", x.map(3, 0, 1), 1);
        CHECK.due("the first stays", x.map(0, 0, 0), 4);
        CHECK.due("four", x.count(2), 4);
        CHECK.due("no such", x.drop(4), -1);
        CHECK.due("below", x.drop(-1), -1);
        CHECK.due("the last", x.drop(3), 3);
        CHECK.due("the first", x.drop(0), 2);
        CHECK.due("undo", x.undo(), 2);
        CHECK.due("undo", x.undo(), 1);
        CHECK.due("undo", x.undo(), 0);
        CornerMaps y = Plain.with("");
        for (int m = 0; m < 5; m++) {
            for (int i = 0; i < 9; i++) {
                CHECK.due("back " + m, x.map(m, i / 3, i % 3), y.map(m, i / 3, i % 3));
            }
        }
        for (int left = 4; left >= 0; left--) {
            CHECK.due("left", x.drop(0), left);
        }
        CHECK.due("none left", x.drop(0), -1);
    }

    private static void tell() {
        CornerMaps x = new CornerMaps();
        CHECK.due("first", x.tell(4, -6, -8), 0);
        CHECK.three("reduced", what -> x.point(0, what), -2, 3, 4);
        CHECK.due("bounds", x.tell(9999, -9999, 0), 1);
        CHECK.three("y above 0", what -> x.point(1, what), -1, 1, 0);
        CHECK.due("beyond", x.tell(10000, 0, 0), -1);
        CHECK.due("beyond", x.tell(0, -10000, 0), -1);
        CHECK.due("beyond", x.tell(0, 0, Integer.MIN_VALUE), -1);
        CHECK.due("nothing", x.tell(0, 0, 0), -2);
        for (int p = 2; p < 8; p++) {
            CHECK.due("point", x.tell(-p, 0, 0), p);
        }
        CHECK.three("x above 0", what -> x.point(7, what), 1, 0, 0);
        CHECK.due("a ninth", x.tell(1, 1, 1), -2);
        CHECK.due("a ninth beyond", x.tell(1, 1, 10000), -1);
        CHECK.due("eight", x.count(3), 8);
        CHECK.due("eight to undo", x.count(5), 8);
    }

    private static void moves() {
        CornerMaps x = Plain.with("point 1 1 1;point 1 0 0;point 2 -1 1;");
        CHECK.due("far ones", x.moves(Plain.M_TRAP), 2);
        CHECK.three("first", what -> x.point(0, what), 3, 2, 1);
        CHECK.three("second", what -> x.point(1, what), 1, 0, 0);
        CHECK.three("third", what -> x.point(2, what), -3, 2, 0);
        CHECK.due("finite ones", x.count(4), 1);
        CHECK.due("undo", x.undo(), 0);
        CHECK.three("third again", what -> x.point(2, what), 2, -1, 1);
        CHECK.due("no such", x.moves(5), -1);
        CHECK.due("below", x.moves(-1), -1);
        CornerMaps y = Plain.with("");
        CHECK.due("no points", y.moves(0), 0);
        CHECK.due("to undo all the same", y.count(5), 1);
        y.make(0, 0);
        CHECK.due("nothing moves", y.moves(5), 0);
        CHECK.due("to undo as well", y.count(5), 3);
    }

    private static void movesBeyond() {
        CornerMaps x = Plain.with("point 1 1 1;point 5000 1 1;");
        CHECK.due("beyond", x.moves(Plain.M_TWICE), -2);
        CHECK.three("the first stays, too", what -> x.point(0, what), 1, 1, 1);
        CHECK.due("nothing to undo", x.count(5), 0);
        CornerMaps y = Plain.with("point 4999 1 1;point 5000 1 2;");
        CHECK.due("within", y.moves(Plain.M_TWICE), 0);
        CHECK.three("9998", what -> y.point(0, what), 9998, 2, 1);
        CHECK.three("reduced it is within", what -> y.point(1, what), 5000, 1, 1);
    }

    private static void undo() {
        CornerMaps x = Plain.with("point 1 1 1;");
        x.make(1, 0);
        x.tell(5, 5, 5);
        x.moves(Plain.M_TWICE);
        x.drop(0);
        x.moves(0);
        x.symmetry(0, 1);
        CHECK.due("six", x.count(5), 6);
        CHECK.due("the symmetry", x.undo(), 5);
        CHECK.due("maps", x.count(2), 5);
        nine("the last one made", x, 4, 2, -1, 0, 0, 2, 0, 0, -2, 8);
        CHECK.three("moved twice", what -> x.point(0, what), 4, 4, 1);
        CHECK.due("moved", x.undo(), 4);
        CHECK.three("moved once", what -> x.point(1, what), 2, 2, 1);
        CHECK.due("dropped", x.undo(), 3);
        CHECK.due("back at its place", x.map(0, 2, 1), 1);
        CHECK.due("moved first", x.undo(), 2);
        CHECK.three("not moved", what -> x.point(1, what), 1, 1, 1);
        CHECK.due("told", x.undo(), 1);
        CHECK.due("points", x.count(3), 1);
        CHECK.due("made", x.undo(), 0);
        CHECK.due("maps", x.count(2), 5);
        CHECK.due("no more", x.undo(), -1);
        CHECK.due("tell after undo", x.tell(1, 2, 3), 1);
        CHECK.due("undo that", x.undo(), 0);
    }

    private static void undoSixteen() {
        CornerMaps x = Plain.with("point 1 0 1;");
        for (int i = 1; i <= 20; i++) {
            CHECK.due("shift", x.moves(Plain.M_SHIFT), 0);
            CHECK.due("to undo", x.count(5), Math.min(i, 16));
        }
        for (int left = 15; left >= 0; left--) {
            CHECK.due("undo", x.undo(), left);
            CHECK.due("where it is", x.point(0, 0), 1 + 3 * (4 + left));
        }
        CHECK.due("forgotten", x.undo(), -1);
        CHECK.three("stays there", what -> x.point(0, what), 13, 4, 1);
        for (int i = 1; i <= 18; i++) {
            x.power(0, 0);
            x.drop(5);
        }
        CHECK.due("sixteen again", x.count(5), 16);
        for (int left = 15; left >= 0; left--) {
            CHECK.due("undo again", x.undo(), left);
            CHECK.due("maps", x.count(2), 6 - (left + 1) % 2);
        }
    }
}
