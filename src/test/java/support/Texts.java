/** Texts made by dice: most are good ones, with quads that are like one another in many ways. */
final class Texts {
    private final Dice dice;

    Texts(Dice dice) {
        this.dice = dice;
    }

    String any() {
        StringBuilder text = new StringBuilder();
        int quads = dice.from(1, dice.oneIn(4) ? 8 : 4);
        int[][] all = new int[quads][];
        for (int q = 0; q < quads; q++) {
            all[q] = quad(q == 0 ? null : all[dice.below(q)]);
            text.append("quad ").append((char) ('a' + q));
            for (int n : all[q]) {
                text.append(blank()).append(number(n));
            }
            text.append(dice.oneIn(2) ? " ;\n" : ";");
        }
        int maps = dice.from(0, 5);
        for (int m = 0; m < maps; m++) {
            text.append("map ").append((char) ('a' + m)).append(' ').append((char) ('a' + dice.below(quads)))
                .append(blank()).append((char) ('a' + dice.below(quads))).append(";");
        }
        int points = dice.from(0, 7);
        int[][] told = new int[points][];
        for (int p = 0; p < points; p++) {
            told[p] = p > 1 && dice.oneIn(2) ? inLineWith(told[p - 1], told[dice.below(p - 1)]) : point();
            text.append("point");
            for (int n : told[p]) {
                text.append(blank()).append(number(n));
            }
            text.append(";");
        }
        return text.toString();
    }

    private String blank() {
        return dice.oneIn(6) ? "\n  " : " ";
    }

    private String number(int n) {
        return n < 0 && dice.oneIn(9) ? "- 0" + -n : "" + n;
    }

    int[] point() {
        int reach = dice.oneIn(5) ? 9999 : dice.oneIn(2) ? 20 : 3;
        int[] p = {dice.from(-reach, reach), dice.from(-reach, reach), dice.oneIn(5) ? 0 : dice.from(-2, 2)};
        if (p[0] == 0 && p[1] == 0 && p[2] == 0) {
            p[dice.below(3)] = 1;
        }
        return p;
    }

    /** Points of one line, some of them alike. */
    String row() {
        int[] p = point();
        int[] q = point();
        StringBuilder text = new StringBuilder();
        for (int i = 0; i < 8; i++) {
            int[] r = i == 0 || dice.oneIn(12) ? p : inLineWith(p, q);
            text.append("point ").append(r[0]).append(' ').append(r[1]).append(' ').append(r[2]).append(';');
        }
        return text.toString();
    }

    /** Maps of great numbers. */
    String great() {
        StringBuilder text = new StringBuilder();
        for (int q = 0; q < 4; q++) {
            int[] c = quad(null);
            text.append("quad ").append((char) ('a' + q));
            for (int n : c) {
                text.append(' ').append(n);
            }
            text.append(';');
        }
        return text + "point 1 2 3;point 9999 -9998 1;";
    }

    private int[] inLineWith(int[] p, int[] q) {
        int timesP = dice.from(-2, 2);
        int timesQ = dice.from(1, 3);
        int[] out = new int[3];
        for (int i = 0; i < 3; i++) {
            out[i] = timesP * p[i] + timesQ * q[i];
            if (out[i] < -9999 || out[i] > 9999) {
                return q;
            }
        }
        return out[0] == 0 && out[1] == 0 && out[2] == 0 ? p : out;
    }

    /** A quad without three corners in line: one like another, or any. */
    private int[] quad(int[] other) {
        for (int tries = 0; tries < 200; tries++) {
            int[] c = other == null || dice.oneIn(3) ? anyQuad() : likeQuad(other);
            if (isGood(c)) {
                return c;
            }
        }
        return new int[] {0, 0, 1, 0, 1, 1, 0, 1};
    }

    private int[] anyQuad() {
        int[] c = new int[8];
        int reach = dice.of(new Integer[] {2, 4, 20});
        for (int i = 0; i < 8; i++) {
            c[i] = dice.from(-reach, reach);
        }
        if (dice.oneIn(3)) {
            c[6] = c[0] + c[4] - c[2];
            c[7] = c[1] + c[5] - c[3];
        }
        if (dice.oneIn(4)) {
            int x = c[0];
            int y = c[1];
            int a = dice.from(-3, 3);
            int b = dice.from(-3, 3);
            c = new int[] {x, y, x + a, y + b, x + a - b, y + b + a, x - b, y + a};
        }
        return c;
    }

    /** Shifted, turned, mirrored, grown, or with its corners in another order. */
    private int[] likeQuad(int[] from) {
        int[] c = from.clone();
        int grow = dice.oneIn(3) ? dice.from(-2, 3) : 1;
        int x = dice.from(-3, 3);
        int y = dice.from(-3, 3);
        int turn = dice.below(4);
        for (int k = 0; k < 4; k++) {
            int a = c[2 * k] * grow;
            int b = c[2 * k + 1] * grow;
            c[2 * k] = x + (turn == 0 ? a : turn == 1 ? -b : turn == 2 ? -a : b);
            c[2 * k + 1] = y + (turn == 0 ? b : turn == 1 ? a : turn == 2 ? b : a);
        }
        if (dice.oneIn(2)) {
            int[] order = Exact.ORDERS[dice.below(24)];
            int[] was = c.clone();
            for (int k = 0; k < 4; k++) {
                c[2 * k] = was[2 * order[k]];
                c[2 * k + 1] = was[2 * order[k] + 1];
            }
        }
        return c;
    }

    private static boolean isGood(int[] c) {
        for (int n : c) {
            if (n < -20 || n > 20) {
                return false;
            }
        }
        for (int k = 0; k < 4; k++) {
            int a = 2 * k;
            int b = (2 * k + 2) % 8;
            int d = (2 * k + 4) % 8;
            if ((c[b] - c[a]) * (c[d + 1] - c[a + 1]) == (c[b + 1] - c[a + 1]) * (c[d] - c[a])) {
                return false;
            }
        }
        return true;
    }

    /** A text with some of its bytes changed, left out or put in. */
    String spoilt(String text) {
        String[] bits = {"quad", "map", "point", ";", "-", " ", "", "0", "9", "20", "21", "9999", "10000", "a", "abcdef",
            "abcdefg", "A", "\t", "\u00e9", "\0", "000000000000000005", "99999999999999999999", "\n", "- 5", "--"};
        StringBuilder out = new StringBuilder(text);
        int times = dice.from(1, 3);
        for (int i = 0; i < times && out.length() > 0; i++) {
            int at = dice.below(out.length());
            int to = Math.min(out.length(), at + dice.of(new Integer[] {0, 1, 1, 2, 5, 12}));
            if (dice.oneIn(4)) {
                out.insert(at, out.substring(at, to));
            } else {
                out.replace(at, to, dice.of(bits));
            }
        }
        return out.toString();
    }
}
