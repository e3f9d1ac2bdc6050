/** Maps of great numbers, made by calls from small ones. */
final class Grown {
    /** Quads and, by these, maps: to the right by 1, up by 1, y and x added to y, ten times as great. */
    static final String TEXT = "quad one 0 0 1 0 1 1 0 1;quad right 1 0 2 0 2 1 1 1;quad up 0 1 1 1 1 2 0 2;"
        + "quad shear 0 0 1 1 1 2 0 1;quad ten 0 0 10 0 10 10 0 10;quad half 0 0 2 0 2 2 0 2;quad mirr 0 0 0 1 1 1 1 0;"
        + "map right one right;map up one up;map shear one shear;map ten one ten;map half half one;map mirr one mirr;";
    static final int RIGHT = 0;
    static final int UP = 1;
    static final int SHEAR = 2;
    static final int TEN = 3;
    static final int HALF = 4;
    static final int MIRRORED = 5;

    private Grown() {
    }

    static CornerMaps with(String points) {
        return Script.of(TEXT + points);
    }

    /** Makes a POWER of a MAP, n however great or below 0, and needs room for three MAPS: its number. */
    static int times(CornerMaps x, int m, int n) {
        int last = x.power(m, 0);
        for (char digit : ("" + Math.abs(n)).toCharArray()) {
            x.power(last, 10);
            x.drop(last);
            x.power(m, digit - '0');
            x.product(last, last + 1);
            x.drop(last + 1);
            x.drop(last);
        }
        if (n < 0) {
            x.inverse(last);
            x.drop(last);
        }
        return last;
    }
}
