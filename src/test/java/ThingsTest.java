/** Promises 5 to 10: what a text has told. */
public final class ThingsTest {
    private static final Check CHECK = new Check();

    public static void main(String[] args) {
        CornerMaps x = Plain.with("point 6 -4 -2;point -3 0 0;point 0 -7 0;point 5 -10 0;");
        corners(x);
        maps(x);
        points(x);
        shapes(x);
        CHECK.end();
    }

    private static void corners(CornerMaps x) {
        int[] trap = {0, 0, 4, 0, 3, 2, 1, 2};
        for (int i = 0; i < 8; i++) {
            CHECK.due("corner " + i, x.corner(Plain.TRAP, i / 2, i % 2), trap[i]);
        }
        CHECK.due("below 0", x.corner(Plain.TURNED, 2, 0), -1);
        CHECK.noIndex("quad 8", () -> x.corner(8, 0, 0));
        CHECK.noIndex("quad -1", () -> x.corner(-1, 0, 0));
        CHECK.noIndex("corner 4", () -> x.corner(0, 4, 0));
        CHECK.noIndex("corner -1", () -> x.corner(0, -1, 0));
        CHECK.noIndex("no corner ahead of no what", () -> x.corner(0, 4, 2));
        CHECK.noElement("what 2", () -> x.corner(0, 0, 2));
        CHECK.noElement("what -1", () -> x.corner(0, 0, -1));
        CHECK.noElement("least what", () -> x.corner(0, 3, Integer.MIN_VALUE));
    }

    private static void maps(CornerMaps x) {
        int[] trap = {4, 2, 0, 0, 4, 0, 0, 1, 1};
        int[] turn = {0, -1, 0, 1, 0, 0, 0, 0, 1};
        for (int i = 0; i < 9; i++) {
            CHECK.due("trap " + i, x.map(Plain.M_TRAP, i / 3, i % 3), trap[i]);
            CHECK.due("turn " + i, x.map(Plain.M_TURN, i / 3, i % 3), turn[i]);
        }
        CHECK.noIndex("map 5", () -> x.map(5, 0, 0));
        CHECK.noIndex("map -1", () -> x.map(-1, 0, 0));
        CHECK.noIndex("no map ahead of no row", () -> x.map(5, 3, 3));
        CHECK.noElement("row 3", () -> x.map(0, 3, 0));
        CHECK.noElement("row -1", () -> x.map(0, -1, 0));
        CHECK.noElement("place 3", () -> x.map(0, 0, 3));
        CHECK.noElement("place -1", () -> x.map(0, 2, -1));
        // x, y to 2/x, y/x: the last two numbers are 0, so the one ahead of them is above 0.
        CornerMaps y = Script.of("quad a 1 0 2 0 2 2 1 1;quad b 2 0 1 0 1 1 2 1;map f a b;");
        int[] swap = {0, 0, 2, 0, 1, 0, 1, 0, 0};
        for (int i = 0; i < 9; i++) {
            CHECK.due("swap " + i, y.map(0, i / 3, i % 3), swap[i]);
        }
    }

    private static void points(CornerMaps x) {
        CHECK.three("-3 2 1", what -> x.point(0, what), -3, 2, 1);
        CHECK.three("1 0 0", what -> x.point(1, what), 1, 0, 0);
        CHECK.three("0 1 0", what -> x.point(2, what), 0, 1, 0);
        CHECK.three("-1 2 0", what -> x.point(3, what), -1, 2, 0);
        CHECK.noIndex("point 4", () -> x.point(4, 0));
        CHECK.noIndex("point -1", () -> x.point(-1, 0));
        CHECK.noIndex("no point ahead of no what", () -> x.point(4, 3));
        CHECK.noElement("what 3", () -> x.point(0, 3));
        CHECK.noElement("what -1", () -> x.point(0, -1));
    }

    private static void shapes(CornerMaps x) {
        int[] shapes = {0, 0, 0, 1, 2, 0, 0, 0};
        int[] dents = {-2, -2, -2, 2, -2, -2, -2, -2};
        int[] areas = {2, 12, 8, 8, 0, 2, 2, 2};
        for (int q = 0; q < 8; q++) {
            CHECK.due("shape " + q, x.shape(q), shapes[q]);
            CHECK.due("dent " + q, x.dent(q), dents[q]);
            CHECK.due("area " + q, x.area(q), areas[q]);
        }
        for (int q : new int[] {-1, 8, Integer.MAX_VALUE}) {
            CHECK.due("shape " + q, x.shape(q), -1);
            CHECK.due("dent " + q, x.dent(q), -1);
            CHECK.due("area " + q, x.area(q), -100000);
        }
        // The corner within at each place, both ways around; and a crossed quad that has an area.
        CornerMaps y = Script.of("quad a 1 1 0 4 0 0 4 0;quad b 4 0 1 1 0 4 0 0;quad c 0 4 4 0 1 1 0 0;"
            + "quad d 0 0 4 0 0 4 1 1;quad e 20 20 -20 20 -20 -20 20 -20;quad f 20 20 20 -20 -20 -20 -20 20;"
            + "quad g 0 0 4 0 1 3 1 -1;");
        CHECK.due("dent at 0", y.dent(0), 0);
        CHECK.due("dent at 1", y.dent(1), 1);
        CHECK.due("dent at 2", y.dent(2), 2);
        CHECK.due("dent at 3", y.dent(3), 3);
        CornerMaps small = Script.of("quad a 0 0 2 1 1 1 1 2;quad b 0 0 1 2 1 1 2 1;");
        CHECK.due("the least turns", small.dent(0), 2);
        CHECK.due("the least turns, clockwise", small.dent(1), 2);
        CHECK.due("counterclockwise", y.area(4), 3200);
        CHECK.due("clockwise", y.area(5), -3200);
        CHECK.due("crossed", y.shape(6), 2);
        CHECK.due("crossed area", y.area(6), 8);
        CHECK.due("no dent in it", y.dent(6), -2);
    }
}
