/** Promises 35 to 42, 52 and 56 to 58: points and lines among themselves, shares, tracks. */
public final class PointsTest {
    private static final Check CHECK = new Check();
    private static final long NO = CornerMaps.NO;
    /** Around 10 10: the second point goes beyond 9999, and would come back. */
    private static final String HALF_TURN = "quad a 0 0 1 0 1 1 0 1;quad b 20 20 19 20 19 19 20 19;map h a b;"
        + "point -9979 0 1;point -9980 0 1;";

    public static void main(String[] args) {
        join();
        inLine();
        meet();
        share();
        fourth();
        track();
        cycle();
        whole();
        leads();
        turnOf();
        gap();
        middle();
        CHECK.end();
    }

    private static void join() {
        CornerMaps x = Script.of("point 0 0 1;point 1 1 1;point 2 2 2;point 1 0 0;point 0 1 0;point 3 -1 2;");
        CHECK.three("diagonal", what -> x.join(0, 1, what), -1, 1, 0);
        CHECK.three("back", what -> x.join(1, 0, what), -1, 1, 0);
        CHECK.three("far line", what -> x.join(3, 4, what), 0, 0, 1);
        CHECK.three("axis", what -> x.join(0, 3, what), 0, 1, 0);
        CHECK.three("3 x + y = 4, 2 y = -1", what -> x.join(1, 5, what), -3, -1, 4);
        CHECK.three("x = 0", what -> x.join(0, 4, what), 1, 0, 0);
        CHECK.three("x = 0, back", what -> x.join(4, 0, what), 1, 0, 0);
        CHECK.three("y = 0, back", what -> x.join(3, 0, what), 0, 1, 0);
        CHECK.three("far line, back", what -> x.join(4, 3, what), 0, 0, 1);
        CHECK.due("alike", x.join(1, 2, 0), Check.FAR_OFF);
        CHECK.due("itself", x.join(4, 4, 2), Check.FAR_OFF);
        CHECK.due("alike, no what", x.join(1, 2, 3), NO);
        CHECK.due("what -1", x.join(0, 1, -1), NO);
        CHECK.due("no first", x.join(6, 0, 0), NO);
        CHECK.due("no second", x.join(0, 6, 0), NO);
        CHECK.due("below", x.join(-1, 0, 0), NO);
        CHECK.due("below, too", x.join(0, -1, 0), NO);
    }

    private static void inLine() {
        CornerMaps x = Script.of("point 0 0 1;point 1 1 1;point 1 1 2;point 1 0 0;point 1 1 0;");
        CHECK.due("in line", x.inLine(0, 1, 2), 1);
        CHECK.due("not", x.inLine(0, 1, 3), 0);
        CHECK.due("afar", x.inLine(0, 1, 4), 1);
        CHECK.due("two alike", x.inLine(3, 1, 3), 1);
        CHECK.due("three alike", x.inLine(3, 3, 3), 1);
        CHECK.due("no first", x.inLine(5, 0, 1), -1);
        CHECK.due("no second", x.inLine(0, 5, 1), -1);
        CHECK.due("no third", x.inLine(0, 1, 5), -1);
        CHECK.due("below", x.inLine(0, 1, -1), -1);
    }

    private static void meet() {
        CornerMaps x = Script.of("point 0 0 1;point 2 2 1;point 0 2 1;point 2 0 1;point 4 4 1;point 1 0 0;point 0 1 0;"
            + "point 4 2 1;");
        CHECK.three("amid", what -> x.meet(0, 1, 2, 3, what), 1, 1, 1);
        CHECK.three("parallel", what -> x.meet(0, 3, 2, 1, what), 1, 0, 0);
        CHECK.three("a common one", what -> x.meet(0, 1, 0, 2, what), 0, 0, 1);
        CHECK.three("with the far line", what -> x.meet(0, 1, 5, 6, what), 1, 1, 0);
        CHECK.three("a third", what -> x.meet(0, 7, 2, 3, what), 4, 2, 3);
        CHECK.due("lines alike", x.meet(0, 1, 4, 1, 0), Check.FAR_OFF);
        CHECK.due("no first line", x.meet(0, 0, 1, 2, 0), Check.FAR_OFF);
        CHECK.due("no second line", x.meet(0, 1, 2, 2, 0), Check.FAR_OFF);
        CHECK.due("no line, no what", x.meet(0, 0, 1, 2, 3), NO);
        CHECK.due("what -1", x.meet(0, 1, 2, 3, -1), NO);
        CHECK.due("no p", x.meet(8, 1, 2, 3, 0), NO);
        CHECK.due("no q", x.meet(0, 8, 2, 3, 0), NO);
        CHECK.due("no r", x.meet(0, 1, 8, 3, 0), NO);
        CHECK.due("no s", x.meet(0, 1, 2, -1, 0), NO);
    }

    private static void both(String what, CornerMaps x, int[] four, long above, long below) {
        CHECK.due(what + " above", x.share(four[0], four[1], four[2], four[3], 0), above);
        CHECK.due(what + " below", x.share(four[0], four[1], four[2], four[3], 1), below);
    }

    private static void share() {
        // On y = 1: 0, 1, 2, 3, afar, 1 again; and one beside.
        CornerMaps x = Script.of("point 0 1 1;point 1 1 1;point 2 1 1;point 3 1 1;point 1 0 0;point 2 2 2;point 5 2 1;"
            + "point -7 1 1;");
        both("0 1 2 3", x, new int[] {0, 1, 2, 3}, 4, 3);
        both("0 1 3 2", x, new int[] {0, 1, 3, 2}, 3, 4);
        both("0 2 1 3", x, new int[] {0, 2, 1, 3}, -1, 3);
        both("0 3 1 7", x, new int[] {0, 3, 1, 7}, -5, 7);
        both("simple share, afar", x, new int[] {0, 1, 3, 4}, 3, 2);
        both("r is p", x, new int[] {0, 1, 0, 3}, 0, 1);
        both("s is q", x, new int[] {0, 1, 3, 1}, 0, 1);
        both("r is q", x, new int[] {0, 1, 1, 3}, 1, 0);
        both("s is p", x, new int[] {0, 1, 3, 0}, 1, 0);
        both("q is p", x, new int[] {0, 0, 1, 2}, 1, 1);
        both("s is r", x, new int[] {0, 1, 2, 2}, 1, 1);
        both("two and two", x, new int[] {0, 1, 0, 1}, 0, 1);
        both("two and two, crosswise", x, new int[] {0, 1, 1, 0}, 1, 0);
        both("two and two in a row", x, new int[] {0, 0, 3, 3}, 1, 1);
        both("alike by their shares", x, new int[] {0, 1, 5, 3}, 1, 0);
        for (int[] three : new int[][] {{0, 0, 0, 1}, {0, 0, 1, 0}, {0, 1, 0, 0}, {1, 0, 0, 0}, {5, 1, 1, 1}}) {
            both("three alike", x, three, Check.FAR_OFF, Check.FAR_OFF);
        }
        for (int[] off : new int[][] {{6, 0, 1, 2}, {0, 6, 1, 2}, {0, 1, 6, 2}, {0, 1, 2, 6}, {0, 0, 1, 6}, {6, 0, 0, 1}}) {
            both("not in line", x, off, Check.FAR_OFF, Check.FAR_OFF);
        }
        both("no p", x, new int[] {8, 0, 0, 0}, NO, NO);
        both("no q", x, new int[] {0, 8, 0, 0}, NO, NO);
        both("no r", x, new int[] {0, 0, -1, 0}, NO, NO);
        both("no s", x, new int[] {0, 1, 2, 8}, NO, NO);
        CHECK.due("part 2", x.share(0, 1, 2, 3, 2), NO);
        CHECK.due("part -1", x.share(0, 0, 0, 0, -1), NO);
        // On lines that go through corners of the reckoning: x = 0, the far one.
        CornerMaps y = Script.of("point 0 0 1;point 0 1 1;point 0 2 1;point 0 3 1;point 1 0 0;point 0 1 0;point 1 1 0;"
            + "point 1 -1 0;");
        both("upwards", y, new int[] {0, 1, 2, 3}, 4, 3);
        both("afar", y, new int[] {4, 5, 6, 7}, -1, 1);
        both("with the far one", y, new int[] {0, 2, 1, 5}, -1, 1);
        // Through 0 0, where two are alike: p q, r s, or both.
        CornerMaps o = Script.of("point 1 1 1;point 2 2 1;point 3 3 1;point 0 0 1;point 1 1 0;point 5 1 1;");
        both("q is p, through 0 0", o, new int[] {0, 0, 1, 2}, 1, 1);
        both("s is r, through 0 0", o, new int[] {0, 1, 2, 2}, 1, 1);
        both("two and two, through 0 0", o, new int[] {1, 1, 2, 2}, 1, 1);
        both("r is p, through 0 0", o, new int[] {0, 1, 0, 2}, 0, 1);
        both("r is q, through 0 0", o, new int[] {0, 1, 1, 2}, 1, 0);
        both("0 0 itself", o, new int[] {3, 3, 1, 2}, 1, 1);
        both("0 0 and afar", o, new int[] {3, 4, 0, 2}, 1, 3);
        both("q is p, s off", o, new int[] {0, 0, 1, 5}, Check.FAR_OFF, Check.FAR_OFF);
        both("q is p, r off", o, new int[] {0, 0, 5, 1}, Check.FAR_OFF, Check.FAR_OFF);
        both("p is s, q off", o, new int[] {0, 5, 1, 0}, Check.FAR_OFF, Check.FAR_OFF);
        both("p is r, s off", o, new int[] {0, 1, 0, 5}, Check.FAR_OFF, Check.FAR_OFF);
        both("q is r, p off", o, new int[] {5, 1, 1, 0}, Check.FAR_OFF, Check.FAR_OFF);
        CornerMaps z = Script.of("point 9999 9998 9997;point -9999 9997 9991;point 0 0 1;");
        CHECK.due("great ones not in line", z.share(0, 1, 2, 0, 0), Check.FAR_OFF);
    }

    private static void fourth() {
        CornerMaps x = Script.of("point 0 0 1;point 6 0 1;point 2 0 1;point 3 0 1;point 1 0 0;point 1 1 1;point 4 0 2;");
        CHECK.three("outside", what -> x.fourth(0, 1, 2, what), -6, 0, 1);
        CHECK.three("amid: afar", what -> x.fourth(0, 1, 3, what), 1, 0, 0);
        CHECK.three("afar: amid", what -> x.fourth(0, 1, 4, what), 3, 0, 1);
        CHECK.three("one afar", what -> x.fourth(4, 0, 1, what), -6, 0, 1);
        CHECK.due("not in line", x.fourth(0, 1, 5, 0), Check.FAR_OFF);
        CHECK.due("p is q", x.fourth(0, 0, 1, 0), Check.FAR_OFF);
        CHECK.due("p is r", x.fourth(0, 1, 0, 1), Check.FAR_OFF);
        CHECK.due("q is r", x.fourth(0, 2, 6, 2), Check.FAR_OFF);
        CHECK.due("alike, no what", x.fourth(0, 0, 1, 3), NO);
        CHECK.due("what -1", x.fourth(0, 1, 2, -1), NO);
        CHECK.due("no p", x.fourth(7, 1, 2, 0), NO);
        CHECK.due("no q", x.fourth(0, 7, 2, 0), NO);
        CHECK.due("no r", x.fourth(0, 1, -1, 0), NO);
    }

    private static void track() {
        CornerMaps x = Plain.with("point 1 1 1;point 9999 0 1;point 5000 0 1;point 1 0 0;");
        CHECK.three("itself", what -> x.track(Plain.M_TRAP, 0, 0, what), 1, 1, 1);
        CHECK.three("once", what -> x.track(Plain.M_TRAP, 0, 1, what), 3, 2, 1);
        CHECK.three("twice", what -> x.track(Plain.M_TRAP, 0, 2, what), 16, 8, 3);
        CHECK.three("8192", what -> x.track(Plain.M_TWICE, 0, 13, what), 8192, 8192, 1);
        CHECK.due("16384", x.track(Plain.M_TWICE, 0, 14, 0), Check.FAR_OFF);
        CHECK.due("farther", x.track(Plain.M_TWICE, 0, 20, 0), Check.FAR_OFF);
        CHECK.three("20 shifts", what -> x.track(Plain.M_SHIFT, 0, 20, what), 61, 21, 1);
        CHECK.due("9999", x.track(Plain.M_SHIFT, 1, 0, 0), 9999);
        CHECK.due("beyond", x.track(Plain.M_SHIFT, 1, 1, 0), Check.FAR_OFF);
        CHECK.due("beyond, then no more", x.track(Plain.M_TWICE, 2, 1, 1), Check.FAR_OFF);
        CHECK.due("21", x.track(Plain.M_SHIFT, 0, 21, 0), NO);
        CHECK.due("-1", x.track(Plain.M_SHIFT, 0, -1, 0), NO);
        CHECK.due("what 3", x.track(Plain.M_TWICE, 2, 1, 3), NO);
        CHECK.due("what -1", x.track(0, 0, 0, -1), NO);
        CHECK.due("no map", x.track(5, 0, 0, 0), NO);
        CHECK.due("no point", x.track(0, 4, 0, 0), NO);
        CHECK.due("below", x.track(-1, 0, 0, 0), NO);
        CHECK.due("below, too", x.track(0, -1, 0, 0), NO);
    }

    private static void cycle() {
        CornerMaps x = Plain.with("point 1 0 1;point 0 0 1;point 1 2 0;point 9999 1 1;");
        CHECK.due("a turn", x.cycle(Plain.M_TURN, 0), 4);
        CHECK.due("amid", x.cycle(Plain.M_TURN, 1), 1);
        CHECK.due("afar", x.cycle(Plain.M_TURN, 2), 2);
        CHECK.due("by none", x.cycle(Plain.M_SHIFT, 0), -2);
        CHECK.due("out of reach", x.cycle(Plain.M_TWICE, 3), -2);
        CHECK.due("no map", x.cycle(5, 0), -1);
        CHECK.due("no point", x.cycle(0, 4), -1);
        CHECK.due("below", x.cycle(-1, 0), -1);
        CHECK.due("below, too", x.cycle(0, -1), -1);
        CornerMaps y = Plain.with("point -100 0 1;");
        y.product(Plain.M_SHIFT, Plain.M_TURN);
        CHECK.due("around 1 2", y.cycle(5, 0), 4);
        CornerMaps z = Script.of(HALF_TURN);
        CHECK.due("within", z.cycle(0, 0), 2);
        CHECK.due("back again, but from beyond", z.cycle(0, 1), -2);
        CHECK.due("its track", z.track(0, 1, 2, 0), Check.FAR_OFF);
    }

    private static void whole() {
        CornerMaps x = Plain.with("");
        CHECK.due("one point", x.whole(Plain.M_TURN, 0), 1);
        CHECK.due("all of 19 by 19", x.whole(Plain.M_TURN, 9), 361);
        // Of y = -1, 0, 1 by 4x + 2y, 4y, y + 1: none, all, and odd x alone, w is 2 else.
        CHECK.due("trapezium", x.whole(Plain.M_TRAP, 1), 6);
        x.inverse(Plain.M_TWICE);
        CHECK.due("half", x.whole(5, 2), 9);
        CHECK.due("10", x.whole(0, 10), -1);
        CHECK.due("-1", x.whole(0, -1), -1);
        CHECK.due("no map", x.whole(6, 0), -1);
        CHECK.due("map -1", x.whole(-1, 0), -1);
    }

    private static void leads() {
        CornerMaps x = Plain.with("point 1 0 1;point 0 1 1;point -1 0 1;point 0 -1 1;point 4 1 1;point 9999 0 1;"
            + "point 5000 0 1;");
        CHECK.due("turn", x.leads(0, 1, 1), Plain.M_TURN);
        CHECK.due("turn twice", x.leads(0, 2, 2), Plain.M_TURN);
        CHECK.due("turn thrice", x.leads(0, 3, 3), Plain.M_TURN);
        CHECK.due("shift", x.leads(0, 4, 1), Plain.M_SHIFT);
        CHECK.due("none", x.leads(0, 3, 1), -2);
        CHECK.due("itself", x.leads(0, 0, 1), Plain.M_SKEW);
        x.power(Plain.M_TURN, 4);
        x.drop(Plain.M_SKEW);
        CHECK.due("itself by nothing", x.leads(0, 0, 1), 4);
        CHECK.due("the first", x.leads(0, 1, 1), Plain.M_TURN);
        CornerMaps z = Script.of(HALF_TURN);
        CHECK.due("within", z.leads(0, 0, 2), 0);
        CHECK.due("back again, but from beyond", z.leads(1, 1, 2), -2);
        CornerMaps y = Script.of("quad a 0 0 1 0 0 1 1 1;map m a a;point 1 1 1;");
        CHECK.due("n 4", y.leads(0, 0, 4), -1);
        CHECK.due("n 0", y.leads(0, 0, 0), -1);
        CHECK.due("n 3", y.leads(0, 0, 3), 0);
        CHECK.due("no p", y.leads(1, 0, 1), -1);
        CHECK.due("no q", y.leads(0, 1, 1), -1);
        CHECK.due("below", y.leads(-1, 0, 1), -1);
        CHECK.due("below, too", y.leads(0, -1, 1), -1);
        CHECK.due("no maps", Script.of("point 1 1 1;").leads(0, 0, 1), -2);
    }

    private static void turnOf() {
        CornerMaps x = Script.of("point 0 0 1;point 4 0 2;point 0 1 1;point 1 0 0;point 3 0 3;point 9999 -9999 1;");
        CHECK.due("left", x.turnOf(0, 1, 2), 1);
        CHECK.due("right", x.turnOf(0, 2, 1), -1);
        CHECK.due("in line", x.turnOf(0, 1, 4), 0);
        CHECK.due("alike", x.turnOf(2, 2, 5), 0);
        CHECK.due("far out", x.turnOf(5, 2, 0), 1);
        CHECK.due("not finite", x.turnOf(3, 0, 1), -2);
        CHECK.due("not finite", x.turnOf(0, 3, 1), -2);
        CHECK.due("not finite", x.turnOf(0, 1, 3), -2);
        CHECK.due("no p", x.turnOf(6, 0, 1), -3);
        CHECK.due("no q", x.turnOf(0, -1, 1), -3);
        CHECK.due("no r", x.turnOf(0, 1, 6), -3);
        // Both hold: by Terms 4 the answer -2 goes ahead of -3.
        CHECK.due("not finite and no such one", x.turnOf(3, 6, 0), -2);
    }

    private static void gap() {
        CornerMaps x = Script.of("point 0 0 1;point 3 4 1;point 1 1 2;point 1 0 0;point 5 5 5;point 9999 9999 1;"
            + "point -9999 -9998 1;");
        CHECK.due("25", x.gap(0, 1, 0), 25);
        CHECK.due("by 1", x.gap(0, 1, 1), 1);
        CHECK.due("1", x.gap(0, 2, 0), 1);
        CHECK.due("by 2", x.gap(2, 0, 1), 2);
        CHECK.due("0", x.gap(4, 4, 0), 0);
        CHECK.due("by 1", x.gap(4, 4, 1), 1);
        CHECK.due("37", x.gap(1, 2, 0), 37);
        CHECK.due("by 2", x.gap(1, 2, 1), 2);
        CHECK.due("great", x.gap(5, 6, 0), 19998L * 19998 + 19997L * 19997);
        CHECK.due("not finite", x.gap(3, 0, 0), -2);
        CHECK.due("not finite", x.gap(0, 3, 1), -2);
        CHECK.due("part 2", x.gap(0, 3, 2), NO);
        CHECK.due("part -1", x.gap(0, 1, -1), NO);
        CHECK.due("no p", x.gap(7, 3, 0), NO);
        CHECK.due("no q", x.gap(3, -1, 0), NO);
    }

    private static void middle() {
        CornerMaps x = Script.of("point 0 0 1;point 3 4 1;point 1 1 3;point 1 0 0;");
        CHECK.three("half", what -> x.middle(0, 1, what), 3, 4, 2);
        CHECK.three("sixths", what -> x.middle(1, 2, what), 10, 13, 6);
        CHECK.three("itself", what -> x.middle(2, 2, what), 1, 1, 3);
        CHECK.due("not finite", x.middle(3, 0, 0), Check.FAR_OFF);
        CHECK.due("not finite", x.middle(0, 3, 0), Check.FAR_OFF);
        CHECK.due("what 3", x.middle(0, 3, 3), NO);
        CHECK.due("what -1", x.middle(0, 1, -1), NO);
        CHECK.due("no p", x.middle(4, 3, 0), NO);
        CHECK.due("no q", x.middle(0, -1, 0), NO);
    }
}
