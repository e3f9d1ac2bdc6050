/** Promises 1 to 4: a new object, the tape, texts and their faults. */
public final class TapeTest {
    private static final Check CHECK = new Check();

    private static final String SQUARE = "quad a 0 0 1 0 1 1 0 1;";

    public static void main(String[] args) {
        newObject();
        tape();
        bytes();
        textLines();
        textAllAnew();
        textNotSoMany();
        faultKeepsAll();
        faultAnswers();
        tokens();
        numbers();
        names();
        ends();
        nine();
        notGood();
        CHECK.end();
    }

    private static void newObject() {
        CornerMaps x = new CornerMaps();
        for (int what = 0; what <= 6; what++) {
            CHECK.due("new count " + what, x.count(what), 0);
        }
        CHECK.due("new undo", x.undo(), -1);
        CHECK.due("new fault", x.fault(0), 0);
        CHECK.due("new place", x.fault(1), -1);
        CHECK.due("new text 1", x.text(1), -2);
        CHECK.due("NONE", CornerMaps.NONE, -1);
        CHECK.due("NO", CornerMaps.NO, Long.MIN_VALUE);
    }

    private static void tape() {
        CornerMaps x = new CornerMaps();
        for (int i = 1; i <= 45; i++) {
            CHECK.due("feed " + i, x.feed(i, -1, 0, Integer.MIN_VALUE, Integer.MAX_VALUE), 20 * i);
        }
        CHECK.due("full tape", x.count(6), 900);
        CHECK.due("feed beyond", x.feed(1, 1, 1, 1, 1), -1);
        CHECK.due("still full", x.count(6), 900);
        CHECK.due("901 bytes", x.text(901), -2);
        CHECK.due("still there", x.count(6), 900);
        CHECK.due("none of them", x.text(0), 0);
        CHECK.due("empty", x.count(6), 0);
        CHECK.due("feed anew", x.feed(1, 1, 1, 1, 1), 20);
    }

    /** The highest byte comes first, and a byte above 127 is one byte. */
    private static void bytes() {
        CornerMaps x = new CornerMaps();
        x.feed(0x706f696e, 0x74203120, 0x3220333b, 0x20202020, 0x20202020);
        CHECK.due("point 1 2 3;", x.text(20), 1);
        CHECK.three("its numbers", what -> x.point(0, what), 1, 2, 3);
        x.feed(0x20202020, 0x2020e920, 0, 0, 0);
        CHECK.due("an e with an accent", x.text(8), -1);
        CHECK.due("place of it", x.fault(1), 6);
    }

    private static void textLines() {
        CornerMaps x = new CornerMaps();
        CHECK.due("three lines", Script.read(x, SQUARE + "point 1 2 3;map f a a;"), 3);
        CHECK.due("lines", x.count(0), 3);
        CHECK.due("quads", x.count(1), 1);
        CHECK.due("maps", x.count(2), 1);
        CHECK.due("points", x.count(3), 1);
        CHECK.due("tape", x.count(6), 0);
        CHECK.due("blanks alone", Script.read(x, " \n \n"), 0);
        CHECK.due("no quads", x.count(1), 0);
        CHECK.due("close together", Script.read(x, "quad a0 0 1-0 1 1 0 1;map f a a;point-1-2-3;"), 3);
        CHECK.three("that point", what -> x.point(0, what), 1, 2, 3);
        CHECK.due("wide apart", Script.read(x, "\n\npoint\n-\n 7   - \n\n 8\n0\n;\n"), 1);
        CHECK.three("the wide one", what -> x.point(0, what), 7, 8, 0);
    }

    private static void textAllAnew() {
        CornerMaps x = Script.of(SQUARE + "map f a a;point 1 2 3;");
        x.tell(1, 1, 1);
        x.product(0, 0);
        CHECK.due("two to undo", x.count(5), 2);
        CHECK.due("text anew", Script.read(x, "point 5 5 5;point 1 0 0;"), 2);
        CHECK.due("nothing to undo", x.count(5), 0);
        CHECK.due("undo nothing", x.undo(), -1);
        CHECK.due("no quads", x.count(1), 0);
        CHECK.due("no maps", x.count(2), 0);
        CHECK.due("two points", x.count(3), 2);
        CHECK.due("names anew", Script.read(x, SQUARE + "map f a a;"), 2);
    }

    private static void textNotSoMany() {
        CornerMaps x = Script.of(SQUARE);
        Script.feed(x, "!");
        CHECK.due("a fault", x.text(1), -1);
        Script.feed(x, "point 1 2 3;        ");
        CHECK.due("21 of 20", x.text(21), -2);
        CHECK.due("below 0", x.text(-1), -2);
        CHECK.due("least", x.text(Integer.MIN_VALUE), -2);
        CHECK.due("most", x.text(Integer.MAX_VALUE), -2);
        CHECK.due("tape stays", x.count(6), 20);
        CHECK.due("fault stays", x.fault(0), 1);
        CHECK.due("quad stays", x.count(1), 1);
        CHECK.due("the first 10", x.text(10), -1);
        CHECK.due("no more is read", x.fault(1), 10);
        Script.feed(x, "point 1 2 35;       ");
        CHECK.due("a number cut", x.text(11), -1);
        CHECK.due("its place", x.fault(1), 11);
        Script.feed(x, "quadrat             ");
        CHECK.due("a word cut", x.text(4), -1);
        CHECK.due("its place", x.fault(1), 4);
        Script.feed(x, "point 1 2 3;        ");
        CHECK.due("the first 12", x.text(12), 1);
        CHECK.due("no fault", x.fault(0), 0);
        CHECK.due("no place", x.fault(1), -1);
    }

    private static void faultKeepsAll() {
        CornerMaps x = Script.of(SQUARE + "map f a a;point 1 2 3;");
        x.tell(4, 5, 6);
        CHECK.due("fault", Script.read(x, "quad b 0 0 2 0 2 2 0 2;point 9 9 9;map g b b;map h b c;"), -1);
        CHECK.due("its number", x.fault(0), 1);
        CHECK.due("its place", x.fault(1), 53);
        CHECK.due("lines", x.count(0), 3);
        CHECK.due("corner", x.corner(0, 1, 0), 1);
        CHECK.due("maps", x.count(2), 1);
        CHECK.due("points", x.count(3), 2);
        CHECK.three("first point", what -> x.point(0, what), 1, 2, 3);
        CHECK.due("to undo", x.count(5), 1);
        CHECK.due("tape", x.count(6), 0);
        CHECK.due("undo", x.undo(), 0);
        CHECK.due("points then", x.count(3), 1);
    }

    private static void faultAnswers() {
        CornerMaps x = new CornerMaps();
        CHECK.due("what -1", x.fault(-1), -1);
        CHECK.due("what 2", x.fault(2), -1);
        Script.read(x, "point 1 2 3;;");
        CHECK.due("fault", x.fault(0), 1);
        CHECK.due("place", x.fault(1), 12);
        CHECK.due("what 2 with a fault", x.fault(2), -1);
        Script.read(x, "");
        CHECK.due("fault gone", x.fault(0), 0);
        CHECK.due("place gone", x.fault(1), -1);
    }

    /** The fault and its place that a text has. */
    private static void fault(String text, int what, int place) {
        CornerMaps x = new CornerMaps();
        CHECK.due("<" + text + ">", Script.read(x, text), -1);
        CHECK.due("<" + text + "> fault", x.fault(0), what);
        CHECK.due("<" + text + "> place", x.fault(1), place);
    }

    private static void tokens() {
        fault("x", 1, 0);
        fault(" ;", 1, 1);
        fault("5", 1, 0);
        fault("-", 1, 0);
        fault("points 1 2 3;", 1, 0);
        fault("pointed 1 2 3;", 1, 0);
        fault("Point 1 2 3;", 1, 0);
        fault("point\t1 2 3;", 1, 5);
        fault("point 1 +2 3;", 1, 8);
        fault("point 1 2 3.", 1, 11);
        fault("point 1 2 3\0;", 1, 11);
        fault("point 1 2 3,", 1, 11);
        fault("point 1 2 3 4;", 1, 12);
        fault("point 1 2 3 -4;", 1, 12);
        fault("point 1 2;", 1, 9);
        fault("point 1 a 3;", 1, 8);
        fault("point a 1 2 3;", 1, 6);
        fault("point --1 2 3;", 1, 7);
        fault("point - a 2 3;", 1, 8);
        fault("point -;", 1, 7);
        fault("quad a 0 0 1 0 1 1 0;", 1, 20);
        fault("quad a 0 0 1 0 1 1 0 1 1;", 1, 23);
        fault("quad 0 0 1 0 1 1 0 1;", 1, 5);
        fault("quad abcdefg 0 0 1 0 1 1 0 1;", 1, 5);
        fault("quad\r", 1, 4);
        fault("quad ;", 1, 5);
        fault("point 1 2 3 a", 1, 12);
        fault("point 1 2 3 -", 1, 12);
        fault(SQUARE + "map f;", 1, 28);
        fault(SQUARE + "map f a;", 1, 30);
        fault(SQUARE + "map f a a a;", 1, 33);
        fault(SQUARE + "map ;", 1, 27);
        fault(SQUARE + "map f 1 a;", 1, 29);
        CHECK.due("six letters", Script.read(new CornerMaps(), "quad abcdef 0 0 1 0 1 1 0 1;"), 1);
    }

    private static void numbers() {
        fault("point 1 10000 3;", 2, 8);
        fault("point 1 -10000 3;", 2, 8);
        fault("point 1 -  10000 3;", 2, 8);
        fault("point 99999999999999999999999 1 1;", 2, 6);
        fault("point 10000 x 1;", 2, 6);
        fault("point -10000", 2, 6);
        fault("quad a 0 0 21 0 1 1 0 1;", 2, 11);
        fault("quad a 0 0 1 0 1 1 0 -\n21;", 2, 21);
        CornerMaps x = new CornerMaps();
        CHECK.due("at the bounds", Script.read(x, "quad a -20 -20 20 -20 20 20 -20 00020;"
            + "point 9999 -9999 0000000000000000000007;point -0 - 0 -5;"), 3);
        CHECK.due("a corner", x.corner(0, 3, 0), -20);
        CHECK.three("a point", what -> x.point(0, what), 9999, -9999, 7);
        CHECK.three("with signs", what -> x.point(1, what), 0, 0, 1);
    }

    private static void names() {
        fault(SQUARE + SQUARE, 3, 28);
        fault(SQUARE + "map f a a;map f a a;", 3, 37);
        fault(SQUARE + "map f a b;", 1, 31);
        fault(SQUARE + "map f b a;", 1, 29);
        fault("map f a a;" + SQUARE, 1, 6);
        fault("quad quad 0 0 1 0 1 1 0 1;", 1, 5);
        fault("quad map 0 0 1 0 1 1 0 1;", 1, 5);
        fault("quad point 0 0 1 0 1 1 0 1;", 1, 5);
        fault(SQUARE + "map map a a;", 1, 27);
        fault(SQUARE + "map f a map;", 1, 31);
        fault(SQUARE + "map f aa a;", 1, 29);
        fault(SQUARE + "map f f a;", 1, 29);
        CHECK.due("a map named as a quad", Script.read(new CornerMaps(), SQUARE + "map a a a;"), 2);
        CHECK.due("names as if words", Script.read(new CornerMaps(), "quad maps 0 0 1 0 1 1 0 1;map quads maps maps;"), 2);
        CHECK.due("letters and their order count", Script.read(new CornerMaps(), SQUARE
            + "quad aa 0 0 1 0 1 1 0 1;quad ab 0 0 1 0 1 1 0 1;quad ba 0 0 1 0 1 1 0 1;quad zzzzzz 0 0 1 0 1 1 0 1;"), 5);
    }

    private static void ends() {
        fault("q", 1, 0);
        fault("quad", 1, 4);
        fault("quad a", 1, 6);
        fault("quad a 0 0 1 0 1 1 0 1", 1, 22);
        fault("quad a 0 0 1 0 1 1 0 1 \n ", 1, 25);
        fault("point 1 -", 1, 9);
        fault(SQUARE + "map f a", 1, 30);
        fault(SQUARE + "map f a a", 1, 32);
    }

    private static void nine() {
        String quads = "";
        String maps = "";
        String points = "";
        for (char c = 'a'; c < 'i'; c++) {
            quads += "quad " + c + " 0 0 1 0 1 1 0 1;";
            maps += "map " + c + " a a;";
            points += "point 1 1 1;";
        }
        CornerMaps x = new CornerMaps();
        CHECK.due("eight of each", Script.read(x, quads + maps + points), 24);
        fault(quads + "quad i 0 0 1 0 1 1 0 1;", 2, quads.length());
        fault(quads + " quad", 2, quads.length() + 1);
        fault(SQUARE + maps + "map i a a;", 2, SQUARE.length() + maps.length());
        fault(points + "point", 2, points.length());
        fault(points + "points", 1, points.length());
    }

    private static void notGood() {
        fault("quad a 0 0 1 1 2 2 0 1;", 4, 22);
        fault("quad a 0 0 1 0 1 1 2 0 ;", 4, 23);
        fault("quad a 0 0 0 0 1 1 0 1;", 4, 22);
        fault("quad a 0 1 1 0 1 1 2 1;", 4, 22);
        fault("quad a 0 0 0 1 3 3 0 2;", 4, 22);
        fault("quad a 0 1 1 0 2 0 3 0;", 4, 22);
        fault("quad a 1 0 0 1 2 0 3 0;", 4, 22);
        fault("point 0 0 0;", 4, 11);
        fault("point 0 -0 0 ;", 4, 13);
        String great = "quad a -20 -19 20 -17 19 18 -17 20;quad b 7 20 -20 -13 19 -20 11 13;";
        fault(great + "map f a b;", 4, great.length() + 9);
        fault(great + "map f a b", 1, great.length() + 9);
        CHECK.due("without that map", Script.read(new CornerMaps(), great), 2);
    }
}
