/** The numbers at which answers change (LARGE, 1000000, 9999), just within and just beyond, either way. */
public final class EdgesTest {
    private static final Check CHECK = new Check();
    private static final int MOST = 1000000000;
    /** Of which the product is 1000000000, or 1 more. */
    private static final int[][] WITHIN = {{1000, 1000000}, {-1000, 1000000}, {1000, -1000000}};
    private static final int[][] BEYOND = {{1001, 999001}, {-1001, 999001}, {1001, -999001}};

    /** Its symmetry 12 and that one's second power are of great numbers, its inverse and square(15) LARGE. */
    private static final String TURNING = "quad turned 14 17 -7 12 18 -16 -1 -20;";
    private static final String WIDE = "quad wide 1 14 16 18 -16 -5 17 -3;";
    private static final String FAR_APART = "quad far -20 -19 20 -17 19 18 -17 20;quad off 7 20 -20 -13 19 -20 11 13;";

    public static void main(String[] args) {
        largeProduct();
        largePower();
        largeInverse();
        largeAside();
        largeAheadOfFull();
        turn();
        turnsByDice();
        moves();
        track();
        leads();
        cycle();
        told();
        CHECK.end();
    }

    private static void nine(String what, CornerMaps x, int m, int... want) {
        for (int i = 0; i < 9; i++) {
            CHECK.due(what + " " + i, x.map(m, i / 3, i % 3), want[i]);
        }
    }

    /** To the right by the first, then that many times x added to y: the first two numbers multiplied. */
    private static int product(CornerMaps x, int[] by) {
        int shift = Grown.times(x, Grown.RIGHT, by[0]);
        int shear = Grown.times(x, Grown.SHEAR, by[1]);
        return x.product(shear, shift);
    }

    private static void largeProduct() {
        for (int[] by : WITHIN) {
            CornerMaps x = Grown.with("");
            int m = product(x, by);
            CHECK.due("within", m, 8);
            nine("within", x, m, 1, 0, by[0], by[1], 1, by[0] * by[1], 0, 0, 1);
            CHECK.due("size", x.size(m), MOST);
        }
        for (int[] by : BEYOND) {
            CornerMaps x = Grown.with("");
            CHECK.due("beyond", product(x, by), -2);
            CHECK.due("none came", x.count(2), 8);
            int undo = x.count(5);
            CHECK.due("again", x.product(7, 6), -2);
            CHECK.due("nothing to undo of it", x.count(5), undo);
        }
        CornerMaps x = Grown.with("");
        int most = Grown.times(x, Grown.RIGHT, MOST);
        CHECK.due("to the right by 1000000000", x.size(most), MOST);
        CHECK.due("and by 1 more", x.product(most, Grown.RIGHT), -2);
        CHECK.due("and back by 1", x.product(most, Grown.times(x, Grown.RIGHT, -1)), most + 2);
        CornerMaps y = Grown.with("");
        int least = Grown.times(y, Grown.UP, -MOST);
        CHECK.due("down by 1000000000", y.map(least, 1, 2), -MOST);
        CHECK.due("up by 1", y.product(least, Grown.UP), least + 1);
        y.inverse(Grown.UP);
        CHECK.due("down by 1", y.product(least, least + 2), -2);
        // It is the REDUCED numbers that count.
        CornerMaps z = Grown.with("");
        int great = z.power(Grown.TEN, 9);
        int small = z.inverse(great);
        CHECK.due("a common divisor goes first", z.product(great, small), small + 1);
        CHECK.due("nothing", z.kind(small + 1), 0);
        CHECK.due("tenfold more", z.product(great, Grown.TEN), -2);
        CHECK.due("a tenth", z.product(small, Grown.TEN), small + 2);
        CHECK.due("8 zeros", z.map(small + 2, 2, 2), 100000000);
    }

    private static int sheared(CornerMaps x, int[] by) {
        int shift = Grown.times(x, Grown.RIGHT, by[0]);
        int shear = Grown.times(x, Grown.SHEAR, by[1]);
        return x.product(shift, shear);
    }

    private static void largePower() {
        for (int[] by : WITHIN) {
            CornerMaps x = Grown.with("");
            int m = sheared(x, by);
            int twice = x.power(m, 2);
            CHECK.due("second power within", twice, m + 1);
            nine("second power", x, twice, 1, 0, 2 * by[0], 2 * by[1], 1, by[0] * by[1], 0, 0, 1);
            CHECK.due("third power", x.power(m, 3), -2);
            CHECK.due("a lower one is LARGE", x.power(m, 12), -2);
        }
        for (int[] by : BEYOND) {
            CornerMaps x = Grown.with("");
            int m = sheared(x, by);
            CHECK.due("first power", x.power(m, 1), m + 1);
            CHECK.due("second power beyond", x.power(m, 2), -2);
            CHECK.due("none came", x.count(2), m + 2);
            CHECK.due("no order", x.order(m), -2);
        }
        CornerMaps x = Grown.with("");
        CHECK.due("1000000000", x.power(Grown.TEN, 9), 6);
        CHECK.due("10000000000", x.power(Grown.TEN, 10), -2);
        CHECK.due("a half 12 times", x.power(Grown.HALF, 12), 7);
        CHECK.due("4096", x.map(7, 2, 2), 4096);
        CHECK.due("by 4096 to the 2nd", x.power(7, 2), 8);
        CHECK.due("by 4096 to the 3rd", x.power(7, 3), -2);
        // The third power would be NOTHING, but the second one is LARGE.
        CornerMaps y = Script.of(TURNING);
        y.symmetry(0, 12);
        for (int n = 2; n <= 12; n++) {
            CHECK.due("a lower power is LARGE, of " + n, y.power(0, n), -2);
        }
        CHECK.due("power 0 is none of it", y.power(0, 0), 1);
    }

    private static void largeInverse() {
        for (int[] by : WITHIN) {
            CornerMaps x = Grown.with("");
            int m = sheared(x, by);
            int back = x.inverse(m);
            CHECK.due("inverse within", back, m + 1);
            nine("inverse", x, back, 1, 0, -by[0], -by[1], 1, by[0] * by[1], 0, 0, 1);
            CHECK.three("before", what -> x.before(m, 0, 0, 1, what), -by[0], by[0] * by[1], 1);
            // y = 0 becomes y = b x - a b, in which the last number goes above 0.
            int sign = by[0] > 0 == by[1] > 0 ? 1 : -1;
            CHECK.three("line", what -> x.line(m, 0, 1, 0, what), -sign * by[1], sign, MOST);
            CHECK.due("partner", x.partner(m), back);
        }
        for (int[] by : BEYOND) {
            CornerMaps x = Grown.with("");
            int m = sheared(x, by);
            CHECK.due("inverse beyond", x.inverse(m), -2);
            for (int what = 0; what < 3; what++) {
                CHECK.due("before", x.before(m, 0, 0, 1, what), Check.FAR_OFF);
                CHECK.due("line", x.line(m, 0, 1, 0, what), Check.FAR_OFF);
            }
            CHECK.due("partner", x.partner(m), -2);
            CHECK.three("the map itself", what -> x.image(m, 0, 0, 1, what), by[0], 0, 1);
            CHECK.three("pull", what -> x.pull(m, 0, 1, 0, what), by[1], 1, 0);
            CHECK.three("vanishing", what -> x.vanishing(m, what), 0, 0, 1);
            CHECK.due("keepsLine", x.keepsLine(m, 0, 0, 1), 1);
            CHECK.due("NO ahead", x.before(m, 0, 0, 0, 0), CornerMaps.NO);
            CHECK.due("NO ahead", x.before(m, 0, 0, 1, 3), CornerMaps.NO);
            CHECK.due("NO ahead", x.before(m, 10000, 0, 1, 0), CornerMaps.NO);
            CHECK.due("NO ahead", x.line(m, 0, 0, 0, 0), CornerMaps.NO);
            CHECK.due("NO ahead", x.line(m, 0, 1, 0, -1), CornerMaps.NO);
            CHECK.due("NO ahead", x.line(m, 0, -10000, 0, 1), CornerMaps.NO);
        }
    }

    /** "rows of three of which the last two COME to a LARGE one aside": down by 1 makes them small again. */
    private static void largeAside() {
        int[][] by = {{1000, 1000000}, {1001, 999001}};
        for (int i = 0; i < 2; i++) {
            CornerMaps x = Grown.with("");
            int down = x.inverse(Grown.UP);
            int shear = Grown.times(x, Grown.SHEAR, by[i][1]);
            int shift = Grown.times(x, Grown.RIGHT, by[i][0]);
            int first = x.product(down, shear);
            int due = x.product(first, shift);
            x.drop(first);
            due--;
            for (int m = 0; m < 6; m++) {
                x.drop(0);
            }
            due -= 6;
            CHECK.due("its number", x.map(due, 1, 2), 999999999 + i);
            CHECK.due("how many", x.word(due, -1), 3);
            // Shear, then down is the same, and the last two of it are of small numbers.
            int[] row = i == 0 ? new int[] {down - 6, shear - 6, shift - 6} : new int[] {shear - 6, down - 6, shift - 6};
            for (int k = 0; k < 3; k++) {
                CHECK.due("row " + k, x.word(due, k), row[k]);
            }
        }
    }

    private static void largeAheadOfFull() {
        CornerMaps x = Script.of(TURNING + WIDE + FAR_APART + "quad one 0 0 1 0 1 1 0 1;quad ten 0 0 10 0 10 10 0 10;"
            + "map ten one ten;");
        CHECK.due("of a LARGE inverse", x.symmetry(0, 12), 1);
        CHECK.due("1000000000", x.power(0, 9), 2);
        largeOnes("with room", x, -2);
        for (int m = 3; m < 16; m++) {
            CHECK.due("filled", x.make(4, 4), m);
        }
        String before = State.of(x);
        largeOnes("full", x, -2);
        CHECK.due("make", x.make(4, 5), -3);
        CHECK.due("make nothing", x.make(4, 4), -3);
        CHECK.due("square", x.square(1, 11), -3);
        CHECK.due("product", x.product(0, 0), -3);
        CHECK.due("power", x.power(0, 9), -3);
        CHECK.due("power 0", x.power(1, 0), -3);
        CHECK.due("inverse", x.inverse(2), -3);
        CHECK.due("symmetry", x.symmetry(0, 0), -3);
        CHECK.due("no quad", x.make(6, 2), -1);
        CHECK.due("no quad", x.make(2, -1), -1);
        CHECK.due("by 21", x.square(1, 21), -1);
        CHECK.due("no map", x.product(16, 2), -1);
        CHECK.due("no map", x.inverse(16), -1);
        CHECK.due("13 times", x.power(0, 13), -1);
        CHECK.due("order 24", x.symmetry(2, 24), -1);
        CHECK.due("nothing came of it", State.of(x).equals(before) ? 1 : 0, 1);
        CHECK.due("one less", x.drop(15), 15);
        CHECK.due("the sixteenth again", x.square(1, 11), 15);
        CHECK.due("full again", x.square(1, 11), -3);
    }

    private static void largeOnes(String when, CornerMaps x, int due) {
        CHECK.due(when + " make", x.make(2, 3), due);
        CHECK.due(when + " square", x.square(1, 12), due);
        CHECK.due(when + " product", x.product(0, 2), due);
        CHECK.due(when + " inverse", x.inverse(1), due);
        CHECK.due(when + " power", x.power(0, 10), due);
        boolean large = false;
        for (int k = 0; k < 24; k++) {
            // With room for it, a MAP that came goes again.
            int came = x.symmetry(2, k);
            large |= came == due;
            if (came >= 0) {
                x.undo();
            }
        }
        CHECK.due(when + " symmetry", large ? 1 : 0, 1);
    }

    private static void turn() {
        int[] signs = {1, -1};
        for (int sign : signs) {
            CornerMaps x = Grown.with("");
            int within = Grown.times(x, Grown.RIGHT, sign * 1000000);
            CHECK.due("1000000", x.turn(within), 1);
            CHECK.due("mirrored", x.turn(x.product(Grown.MIRRORED, within)), -1);
            int beyond = Grown.times(x, Grown.RIGHT, sign * 1000001);
            CHECK.due("1000001", x.turn(beyond), 2);
            CHECK.due("mirrored", x.turn(x.product(Grown.MIRRORED, beyond)), 2);
        }
        CornerMaps x = Grown.with("");
        CHECK.due("1000001 amid", x.turn(Grown.times(x, Grown.SHEAR, 1000001)), 2);
        CHECK.due("1000000 amid", x.turn(Grown.times(x, Grown.SHEAR, 1000000)), 1);
        CHECK.due("the most", x.turn(Grown.times(x, Grown.UP, -MOST)), 2);
        // Of numbers none of which is 0.
        CornerMaps y = Script.of("quad one 0 0 1 0 1 1 0 1;quad a 3 1 9 2 7 8 2 6;quad b 5 -4 -8 3 -1 11 6 2;"
            + "quad c -7 -9 -2 8 11 3 4 -5;map f one a;map g one b;map h one c;");
        for (int m = 0; m < 3; m++) {
            CHECK.due("turn " + m, y.turn(m), signOf(y, m));
            int back = y.inverse(m);
            CHECK.due("turn of the inverse " + m, y.turn(back), signOf(y, back));
            CHECK.due("within", y.turn(back) == 2 ? 1 : 0, 0);
        }
    }

    /** Small quads by dice, so that each product of numbers tells now and then. */
    private static void turnsByDice() {
        Dice dice = new Dice(28);
        int[] seen = new int[3];
        for (int round = 0; round < 400; round++) {
            StringBuilder text = new StringBuilder("quad a");
            for (int i = 0; i < 16; i++) {
                text.append(i == 8 ? ";quad b " : " ").append(dice.from(-3, 3));
            }
            CornerMaps x = new CornerMaps();
            if (Script.read(x, text + ";map f a b;") == 3 && x.size(0) <= 1000000) {
                int sign = signOf(x, 0);
                seen[sign + 1]++;
                CHECK.due("turn by " + text, x.turn(0), sign);
            }
        }
        CHECK.due("many of both", seen[0] > 40 && seen[2] > 40 ? 1 : 0, 1);
        CHECK.due("none is 0", seen[1], 0);
    }

    /** The sign of the determinant, reckoned without bounds. */
    private static int signOf(CornerMaps x, int m) {
        java.math.BigInteger[][] rows = new java.math.BigInteger[3][];
        for (int row = 0; row < 3; row++) {
            rows[row] = Exact.row(x.map(m, row, 0), x.map(m, row, 1), x.map(m, row, 2));
        }
        return Exact.det(rows[0], rows[1], rows[2]).signum();
    }

    /** "one would have a number beyond -9999 .. 9999": x, y, w, either way, the last of eight alone, too. */
    private static void moves() {
        int[][] shifts = {{Grown.RIGHT, 0}, {Grown.UP, 1}};
        for (int[] shift : shifts) {
            for (int sign : new int[] {1, -1}) {
                CornerMaps x = Grown.with("point 1 1 1;point 1 0 0;");
                int m = Grown.times(x, shift[0], sign);
                int[] p = {5, 5};
                p[shift[1]] = sign * 9998;
                x.tell(p[0], p[1], 1);
                CHECK.due("to 9999", x.moves(m), 1);
                CHECK.due("9999", x.point(2, shift[1]), sign * 9999);
                String before = State.of(x);
                CHECK.due("to 10000", x.moves(m), -2);
                CHECK.due("nothing happens", State.of(x).equals(before) ? 1 : 0, 1);
                CHECK.due("back", x.undo() >= 0 ? x.point(2, shift[1]) : 0, sign * 9998);
            }
        }
        CornerMaps x = Grown.with("point 0 0 1;point 1 3 4999;");
        CHECK.due("w to 9998", x.moves(Grown.HALF), 0);
        CHECK.due("9998", x.point(1, 2), 9998);
        CHECK.due("w to 19996", x.moves(Grown.HALF), -2);
        CornerMaps y = Grown.with("point 1 3 5000;");
        CHECK.due("w to 10000", y.moves(Grown.HALF), -2);
        CHECK.due("nothing to undo", y.count(5), 0);
        y.undo();
        CornerMaps z = Grown.with("point 2 4 9998;point 9999 1 0;");
        CHECK.due("REDUCED it is within", z.moves(Grown.HALF), 1);
        CHECK.three("1 2 9998", what -> z.point(0, what), 1, 2, 9998);
        CHECK.due("far ones count, too", z.moves(Grown.SHEAR), -2);
        StringBuilder points = new StringBuilder();
        for (int p = 0; p < 7; p++) {
            points.append("point 1 1 1;");
        }
        CornerMaps last = Grown.with(points + "point 9999 1 1;");
        CHECK.due("the last of eight", last.moves(Grown.RIGHT), -2);
        CHECK.due("the first stays", last.point(0, 0), 1);
        CornerMaps first = Grown.with("point 9999 1 1;" + points);
        CHECK.due("the first of eight", first.moves(Grown.RIGHT), -2);
        CHECK.due("the last stays", first.point(7, 0), 1);
    }

    private static void track() {
        for (int sign : new int[] {1, -1}) {
            CornerMaps x = Grown.with("point " + sign * 9979 + " 7 1;point " + sign * 9980 + " 7 1;");
            int m = Grown.times(x, Grown.RIGHT, sign);
            CHECK.due("the 20th at 9999", x.track(m, 0, 20, 0), sign * 9999);
            CHECK.due("the 19th at 9999", x.track(m, 1, 19, 0), sign * 9999);
            CHECK.due("the 20th at 10000", x.track(m, 1, 20, 0), Check.FAR_OFF);
            CHECK.due("no 21st", x.track(m, 0, 21, 0), CornerMaps.NO);
            CornerMaps y = Grown.with("point 3 " + sign * 9998 + " 1;");
            int n = Grown.times(y, Grown.UP, sign);
            CHECK.due("y at 9999", y.track(n, 0, 1, 1), sign * 9999);
            CHECK.due("y at 10000", y.track(n, 0, 2, 1), Check.FAR_OFF);
        }
        CornerMaps x = Grown.with("point 1 1 39;point 2 2 9999;point 1 1 5000;");
        CHECK.due("w 9984", x.track(Grown.HALF, 0, 8, 2), 9984);
        CHECK.due("w 19968", x.track(Grown.HALF, 0, 9, 2), Check.FAR_OFF);
        CHECK.due("w REDUCED", x.track(Grown.HALF, 1, 1, 2), 9999);
        CHECK.due("w 19998", x.track(Grown.HALF, 1, 2, 2), Check.FAR_OFF);
        CHECK.due("w 10000", x.track(Grown.HALF, 2, 1, 2), Check.FAR_OFF);
        CHECK.due("itself", x.track(Grown.HALF, 2, 0, 2), 5000);
        CHECK.due("NO ahead", x.track(Grown.HALF, 2, 1, 3), CornerMaps.NO);
    }

    private static void leads() {
        CornerMaps x = Grown.with("point 9996 0 1;point 9999 0 1;point 9997 0 1;");
        CHECK.due("thrice to 9999", x.leads(0, 1, 3), Grown.RIGHT);
        CHECK.due("twice to 9999", x.leads(2, 1, 2), Grown.RIGHT);
        CHECK.due("thrice, but no more", x.leads(2, 1, 3), -2);
        CHECK.due("four times", x.leads(0, 1, 4), -1);
    }

    private static void cycle() {
        // All turns that come back: in 1, 2, 3, 4 and 6 steps.
        CornerMaps x = Script.of("quad a 1 0 1 1 0 1 -1 0;quad b 1 1 0 1 -1 0 -1 -1;map six a b;point 1 0 1;point 0 0 1;"
            + "point 1 0 0;");
        int[] steps = {1, 6, 3, 2, 3, 6};
        for (int n = 0; n < 6; n++) {
            CHECK.due("power " + n, x.power(0, n), n + 1);
            CHECK.due("cycle by power " + n, x.cycle(n + 1, 0), steps[n]);
            CHECK.due("order of power " + n, x.order(n + 1), steps[n]);
            CHECK.due("amid " + n, x.cycle(n + 1, 1), 1);
        }
        CHECK.due("afar", x.cycle(1 + 1, 2), 3);
        // The 21st would be beyond, the 20th isn't: that it doesn't come back is known either way.
        CornerMaps y = Grown.with("point 1 1 1;point 9999 1 1;");
        CHECK.due("never back", y.cycle(Grown.RIGHT, 0), -2);
        CHECK.due("beyond at once", y.cycle(Grown.RIGHT, 1), -2);
        CHECK.due("at once", y.cycle(y.power(0, 0), 1), 1);
    }

    private static void told() {
        CornerMaps x = new CornerMaps();
        int[][] good = {{9999, 1, 1}, {-9999, 1, 1}, {1, 9999, 1}, {1, -9999, 1}, {1, 1, 9999}, {1, 1, -9999}};
        for (int[] p : good) {
            CHECK.due("at the bounds", x.tell(p[0], p[1], p[2]) >= 0 ? 1 : 0, 1);
            for (int i = 0; i < 3; i++) {
                int[] q = {1, 1, 1};
                q[i] = p[i] == 1 ? 1 : p[i] > 0 ? 10000 : -10000;
                CHECK.due("beyond", p[i] == 1 ? -1 : x.tell(q[0], q[1], q[2]), -1);
            }
        }
        CHECK.due("six came", x.count(3), 6);
        CHECK.due("0 0 0", x.tell(0, 0, 0), -2);
        CHECK.due("0 0 0 beyond", x.tell(0, 0, 10000), -1);
        CHECK.due("seventh", x.tell(1, 1, 1), 6);
        CHECK.due("eighth", x.tell(1, 1, 1), 7);
        CHECK.due("ninth", x.tell(1, 1, 1), -2);
        CHECK.due("ninth, 0 0 0", x.tell(0, 0, 0), -2);
        CHECK.due("ninth beyond", x.tell(1, -10000, 1), -1);
        CHECK.due("eight to undo", x.count(5), 8);
        CHECK.due("undone", x.undo(), 7);
        CHECK.due("the eighth again", x.tell(2, 2, 2), 7);
    }
}
