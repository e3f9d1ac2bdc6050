/** Terms 1 and promises 3 and 4: each token of each LINE wrong, cut off or too great; which FAULT comes first. */
public final class FaultTest {
    private static final Check CHECK = new Check();

    private static final String AHEAD = "quad a 0 0 1 0 1 1 0 1;";
    private static final String[] QUAD = {"quad", "b", "0", "0", "7", "2", "5", "6", "-1", "8", ";"};
    private static final String[] MAP = {"map", "f", "a", "a", ";"};
    private static final String[] POINT = {"point", "1", "-2", "3", ";"};
    private static final String[][] FORMS = {QUAD, MAP, POINT};
    /** What can stand at each token: a quad, map or point, a new name, a told one, a number, the ; at the end. */
    private static final String[] SLOTS = {"lnNNNNNNNN;", "lntt;", "lNNN;"};

    public static void main(String[] args) {
        goodForms();
        wrongTokens();
        tokensTooMany();
        cutOff();
        numbers();
        signs();
        words();
        threeInLine();
        nothingPoint();
        firstAlongTheText();
        leastOfOnePlace();
        ninthAheadOfAll();
        fullTape();
        textsUponTexts();
        CHECK.end();
    }

    private static void good(String text, int lines) {
        CornerMaps x = new CornerMaps();
        CHECK.due("<" + text + ">", Script.read(x, text), lines);
        CHECK.due("<" + text + "> fault", x.fault(0), 0);
        CHECK.due("<" + text + "> place", x.fault(1), -1);
    }

    private static void fault(String text, int what, int place) {
        CornerMaps x = new CornerMaps();
        CHECK.due("<" + text + ">", Script.read(x, text), -1);
        CHECK.due("<" + text + "> fault", x.fault(0), what);
        CHECK.due("<" + text + "> place", x.fault(1), place);
        CHECK.due("<" + text + "> leaves no tape", x.count(6), 0);
    }

    private static String upTo(String[] form, int tokens) {
        StringBuilder text = new StringBuilder(AHEAD);
        for (int i = 0; i < tokens; i++) {
            text.append(form[i]).append(' ');
        }
        return text.toString();
    }

    private static String behind(String[] form, int tokens) {
        StringBuilder text = new StringBuilder();
        for (int i = tokens; i < form.length; i++) {
            text.append(' ').append(form[i]);
        }
        return text.toString();
    }

    private static String with(String[] form, int place, String token) {
        return upTo(form, place) + token + behind(form, place + 1);
    }

    private static void goodForms() {
        for (String[] form : FORMS) {
            good(upTo(form, form.length), 2);
            good(upTo(form, form.length).replace(" ", "\n \n"), 2);
        }
    }

    private static boolean canStand(char slot, String token) {
        switch (slot) {
            case 'l': return token.equals("quad") || token.equals("map") || token.equals("point");
            case 'n': return token.equals("x") || token.equals("a") || token.equals("abcdef");
            case 't': return token.equals("a");
            case 'N': return token.equals("7") || token.equals("-");
            default: return token.equals(";");
        }
    }

    private static void wrongTokens() {
        String[] tokens = {"x", "a", "abcdef", "abcdefg", "quad", "map", "point", "7", "-", ";", "A", "+", ".", "\t", "\r",
            "\0", "\u00ff", "`", "{", "/", ":", "\u001f", "!", "\u000b"};
        for (int form = 0; form < 3; form++) {
            for (int i = 0; i < FORMS[form].length; i++) {
                for (String token : tokens) {
                    if (!canStand(SLOTS[form].charAt(i), token)) {
                        fault(with(FORMS[form], i, token), 1, upTo(FORMS[form], i).length());
                    }
                }
            }
        }
    }

    /** One more token ahead of the end: it stands where the ; must. */
    private static void tokensTooMany() {
        for (String[] form : FORMS) {
            int end = form.length - 1;
            fault(upTo(form, end) + "7 ;", 1, upTo(form, end).length());
            fault(upTo(form, end) + "-7 ;", 1, upTo(form, end).length());
            fault(upTo(form, end) + "a ;", 1, upTo(form, end).length());
            fault(upTo(form, end + 1) + ";", 1, upTo(form, end + 1).length());
        }
    }

    /** "the length, if more must come", with blanks at the end or without. */
    private static void cutOff() {
        for (String[] form : FORMS) {
            for (int tokens = 1; tokens < form.length; tokens++) {
                String text = upTo(form, tokens);
                fault(text, 1, text.length());
                fault(text.trim(), 1, text.length() - 1);
                fault(text + "\n  \n", 1, text.length() + 4);
            }
        }
        good("", 0);
        good("   ", 0);
    }

    private static void numbers() {
        numbersOf(QUAD, 2, 20);
        numbersOf(POINT, 1, 9999);
    }

    private static void numbersOf(String[] form, int first, int most) {
        // The last ones would be small, or 0, if they left out what is beyond an int or a long.
        String[] beyond = {"" + (most + 1), "000" + (most + 1), "99999", "100000", "100001", "4294967296", "4294967297",
            "2147483648", "18446744073709551616", "18446744073709551617", "9223372036854775808",
            "1000000000000000000000000000000000000000000000000000000000000000000000000000000"};
        for (int i = first; i < form.length - 1; i++) {
            int place = upTo(form, i).length();
            for (String sign : new String[] {"", "-", "- ", "-\n \n"}) {
                good(with(form, i, sign + most), 2);
                good(with(form, i, sign + "0000000000000000000000" + most), 2);
                for (String number : beyond) {
                    fault(with(form, i, sign + number), 2, place);
                }
            }
        }
    }

    private static void signs() {
        CornerMaps x = Script.of("point - 1 -2 -\n3;point -0 - 00 -07;");
        CHECK.three("signs", what -> x.point(0, what), 1, 2, 3);
        CHECK.three("signs of nothing", what -> x.point(1, what), 0, 0, 1);
        // A sign behind a number is the next one's.
        good("point 1- 2-3;", 1);
        fault("point 1 2 3-;", 1, 11);
        fault("point 1- -2 3;", 1, 9);
        for (int i = 1; i < 4; i++) {
            int place = upTo(POINT, i).length();
            fault(with(POINT, i, "--1"), 1, place + 1);
            fault(with(POINT, i, "- - 1"), 1, place + 2);
            fault(with(POINT, i, "-a"), 1, place + 1);
            fault(with(POINT, i, "-;"), 1, place + 1);
            fault(with(POINT, i, "-\t1"), 1, place + 1);
            fault(with(POINT, i, "+1"), 1, place);
            fault(upTo(POINT, i) + "-", 1, place + 1);
            fault(upTo(POINT, i) + "-  ", 1, place + 3);
        }
    }

    /** 1 .. 6 letters a .. z, wherever a W stands. */
    private static void words() {
        good("quad a 0 0 1 0 1 1 0 1;map a a a;", 2);
        good("quad abcdef 0 0 1 0 1 1 0 1;map zzzzzz abcdef abcdef;", 2);
        good("quad zzzzzz 0 0 1 0 1 1 0 1;map a zzzzzz zzzzzz;", 2);
        fault("quad abcdefg 0 0 1 0 1 1 0 1;", 1, 5);
        fault(AHEAD + "map abcdefg a a;", 1, AHEAD.length() + 4);
        fault("quad abcdef 0 0 1 0 1 1 0 1;map f abcdefg abcdef;", 1, 34);
        fault("quad abcdef 0 0 1 0 1 1 0 1;map f abcdef abcdefg;", 1, 41);
        fault("pointpoint 1 2 3;", 1, 0);
        fault("quadquad a 0 0 1 0 1 1 0 1;", 1, 0);
        fault("a".repeat(700), 1, 0);
        fault("quad " + "b".repeat(700), 1, 5);
        // Told only behind, or as the name of another thing.
        fault(AHEAD + "map f a b;quad b 0 0 1 0 1 1 0 1;", 1, AHEAD.length() + 8);
        fault(AHEAD + "map f a a;map g f a;", 1, AHEAD.length() + 16);
        fault("map f a a;", 1, 6);
        good(AHEAD + "quad f 0 0 1 0 1 1 0 1;map f a f;map a f a;", 4);
        fault(AHEAD + "quad b 0 0 1 0 1 1 0 1;quad a 0 0 1 0 1 1 0 1;", 3, 2 * AHEAD.length() + 5);
        fault(AHEAD + "map f a a;map g a a;map f a a;", 3, AHEAD.length() + 24);
    }

    private static void threeInLine() {
        int[] base = {0, 0, 7, 1, 5, 6, -1, 8};
        good(quad(base) + ";", 1);
        for (int k = 0; k < 4; k++) {
            for (int j = 0; j < 4; j++) {
                if (j == k) {
                    continue;
                }
                int[] alike = base.clone();
                alike[2 * k] = base[2 * j];
                alike[2 * k + 1] = base[2 * j + 1];
                fault(quad(alike) + ";", 4, quad(alike).length());
                fault(quad(alike) + "\n  ;", 4, quad(alike).length() + 3);
            }
        }
        // Each three of the four, and each of the three amid the two others.
        int[][] lines = {{0, 0, 1, 2, 2, 4}, {1, 2, 0, 0, 2, 4}, {-20, -20, 20, 20, 19, 19}, {5, 5, -5, 5, 0, 5},
            {3, 1, 3, -1, 3, 20}};
        for (int[] line : lines) {
            for (int off = 0; off < 4; off++) {
                int[] c = new int[8];
                int from = 0;
                for (int k = 0; k < 4; k++) {
                    c[2 * k] = k == off ? 1 : line[from];
                    c[2 * k + 1] = k == off ? -9 : line[from + 1];
                    from = k == off ? from : from + 2;
                }
                fault(quad(c) + ";", 4, quad(c).length());
            }
        }
        // All but in line.
        good("quad a -20 -20 20 20 20 19 0 1;", 1);
        good("quad a -20 -20 19 20 20 20 -20 -19;", 1);
        fault("quad a 0 0 1 1 2 2 3 3;", 4, 22);
    }

    private static String quad(int[] corners) {
        StringBuilder text = new StringBuilder("quad a");
        for (int n : corners) {
            text.append(' ').append(n);
        }
        return text.toString();
    }

    private static void nothingPoint() {
        fault("point 0 0 0;", 4, 11);
        fault("point -0 00 - 0 ;", 4, 16);
        good("point 1 0 0;point 0 1 0;point 0 0 1;point -1 0 0;point 0 -1 0;point 0 0 -1;", 6);
        fault("point 1 0 0;point 0 0 0;", 4, 23);
    }

    /** Of any two, the one that comes first in the text, whatever their numbers are. */
    private static void firstAlongTheText() {
        String[] faulty = {"quad b 0 0 1 0 1 1 0 x;", "point 1 10000 2;", "map f b a;", "quad a 0 0 1 0 1 1 0 1;",
            "quad b 0 0 1 1 2 2 3 0;", "point 0 0 0;", "quad b 0 -21 1 0 1 1 0 1;", "point 1 2;"};
        int[] faults = {1, 2, 1, 3, 4, 4, 2, 1};
        int[] places = {21, 8, 6, 5, 22, 11, 9, 9};
        for (int i = 0; i < faulty.length; i++) {
            fault(AHEAD + faulty[i], faults[i], AHEAD.length() + places[i]);
            for (String other : faulty) {
                fault(AHEAD + faulty[i] + other, faults[i], AHEAD.length() + places[i]);
                fault(AHEAD + "point 1 1 1;" + faulty[i] + other, faults[i], AHEAD.length() + 12 + places[i]);
            }
        }
        // Two in one LINE.
        fault("quad a 0 0 0 0 0 0 21 x;", 2, 19);
        fault("point 10000 x 0;", 2, 6);
        fault("point x 10000 0;", 1, 6);
        fault(AHEAD + "quad a x;", 3, AHEAD.length() + 5);
        fault(AHEAD + "map f a a;map f b;", 3, AHEAD.length() + 14);
        fault("quad a 0 0 1 1 2 2 3 3", 1, 22);
    }

    /** A token that can't stand there is FAULT 1, though it is too great, told already or one of nine, too. */
    private static void leastOfOnePlace() {
        fault("point 1 2 3 10000;", 1, 12);
        fault("quad 21 0 0 1 0 1 1 0 1;", 1, 5);
        fault("quad b 0 0 1 0 1 1 0 1 -21;", 1, 23);
        fault(AHEAD + "quad b a 0 1 0 1 1 0 1;", 1, AHEAD.length() + 7);
        fault(AHEAD + "map f a a;f", 1, AHEAD.length() + 10);
        fault("10000", 1, 0);
        String eight = eight("quad ", " 0 0 1 0 1 1 0 1;") + eight("map ", " a a;") + eight("point 1 1 1;", "", false);
        for (String word : new String[] {"quad", "map", "point"}) {
            fault(eight + "point " + word, 2, eight.length());
        }
        String seven = eight.substring(0, eight.length() - 12);
        for (String word : new String[] {"quad", "map", "point"}) {
            fault(seven + "point " + word, 1, seven.length() + 6);
            fault(seven + "point 1 1 1" + word, 1, seven.length() + 11);
        }
    }

    private static String eight(String ahead, String behind) {
        return eight(ahead, behind, true);
    }

    private static String eight(String ahead, String behind, boolean named) {
        StringBuilder text = new StringBuilder();
        for (char c = 'a'; c < 'i'; c++) {
            text.append(ahead).append(named ? "" + c : "").append(behind);
        }
        return text.toString();
    }

    /** The ninth is a FAULT at its word, whatever is behind; the other ones may come still. */
    private static void ninthAheadOfAll() {
        String quads = eight("quad ", " 0 0 1 0 1 1 0 1;");
        String maps = eight("map ", " a a;");
        String points = eight("point 1 1 1;", "", false);
        good(quads, 8);
        good(quads + maps + points, 24);
        good(points + quads + maps, 24);
        for (String behind : new String[] {"", " ", "x", " a 0 0 1 0 1 1 0 1;", " i a a;", " 99999 1 1;", ";"}) {
            String word = behind.equals("x") ? " x" : behind;
            fault(quads + "quad" + word, 2, quads.length());
            fault(quads + maps + "map" + word, 2, quads.length() + maps.length());
            fault(points + "point" + word, 2, points.length());
        }
        fault(quads + maps + points + "\n point 1 1 1;", 2, quads.length() + maps.length() + points.length() + 2);
        fault(points + "quad a 0 0 1 0 1 1 0 1;point 1 1 1;", 2, points.length() + 23);
    }

    /** All 900 bytes are one text, the last of them, too. */
    private static void fullTape() {
        String end = "point 1 2 3;";
        good(" ".repeat(900 - end.length()) + end, 1);
        fault(" ".repeat(900 - end.length() - 1) + "p" + end, 1, 900 - end.length() - 1);
        fault(" ".repeat(900 - end.length() + 1) + end.substring(0, end.length() - 1), 1, 900);
        fault(" ".repeat(899) + "x", 1, 899);
        CornerMaps x = new CornerMaps();
        Script.feed(x, " ".repeat(900 - end.length()) + end);
        CHECK.due("all but the last", x.text(899), -1);
        CHECK.due("its place", x.fault(1), 899);
        CHECK.due("no tape", x.count(6), 0);
    }

    /** Nothing of an earlier text, good or not, comes back in a later one. */
    private static void textsUponTexts() {
        String many = eight("quad ", " 0 0 1 0 1 1 0 1;") + eight("map ", " a a;") + eight("point 1 1 1;", "", false);
        CornerMaps x = new CornerMaps();
        int[][] counts = {{24, 8, 8, 8}, {1, 0, 0, 1}, {2, 1, 1, 0}, {0, 0, 0, 0}};
        String[] texts = {many, "point 7 7 7;", AHEAD + "map f a a;", ""};
        for (int round = 0; round < 40; round++) {
            int i = (round * round + round / 4) % 4;
            CHECK.due("round " + round, Script.read(x, texts[i]), counts[i][0]);
            for (int what = 0; what < 4; what++) {
                CHECK.due("round " + round + " count " + what, x.count(what), counts[i][what]);
            }
            CHECK.due("round " + round + " undo", x.count(5), 0);
            x.tell(1, 2, 3);
            String before = State.of(x).replaceAll("fault -?\\d -?\\d+ ", "");
            CHECK.due("a fault behind", Script.read(x, round % 2 == 0 ? many + "point 1 1 1;" : many + "x"), -1);
            CHECK.due("all else stays", State.of(x).endsWith(before) ? 1 : 0, 1);
            CHECK.due("many once more", round % 3 == 0 ? Script.read(x, many) : 24, 24);
            CHECK.due("one more", Script.read(x, "point 4 4 8;"), 1);
            CHECK.due("one point", x.count(3), 1);
            CHECK.due("no quads", x.count(1), 0);
            CHECK.due("no maps", x.count(2), 0);
            CHECK.due("its w", x.point(0, 2), 2);
        }
    }
}
