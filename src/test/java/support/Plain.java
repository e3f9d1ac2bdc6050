/** The text that most tests begin with, and what is known of it by hand. */
final class Plain {
    static final int ONE = 0;
    static final int TRAP = 1;
    static final int TWO = 2;
    static final int DART = 3;
    static final int BOW = 4;
    static final int SHIFTED = 5;
    static final int TURNED = 6;
    static final int SKEW = 7;

    static final String QUADS = "quad one 0 0 1 0 1 1 0 1;quad trap 0 0 4 0 3 2 1 2;"
        + "quad two 0 0 2 0 2 2 0 2;quad dart 0 0 4 0 1 1 0 4;quad bow 0 0 2 2 2 0 0 2;"
        + "quad shift 3 1 4 1 4 2 3 2;quad turned 0 0 0 1 -1 1 -1 0;quad skew 0 0 1 0 2 1 1 1;";

    /** To the trapezium, to the square of two, by 3 1, a quarter turn left, to the skew square. */
    static final String MAPS = "map trap one trap;map twice one two;map shift one shift;map turn one turned;"
        + "map skew one skew;";

    static final int M_TRAP = 0;
    static final int M_TWICE = 1;
    static final int M_SHIFT = 2;
    static final int M_TURN = 3;
    static final int M_SKEW = 4;

    private Plain() {
    }

    static CornerMaps with(String points) {
        return Script.of(QUADS + MAPS + points);
    }
}
