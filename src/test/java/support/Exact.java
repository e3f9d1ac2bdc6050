import java.math.BigInteger;

/** Points, lines and maps without bounds, reckoned as the document's Terms tell them. */
final class Exact {
    static final BigInteger[] NOTHING = row(1, 0, 0, 0, 1, 0, 0, 0, 1);
    static final BigInteger LARGEST = BigInteger.valueOf(1000000000L);
    static final int[][] ORDERS = orders();

    private Exact() {
    }

    private static int[][] orders() {
        int[][] all = new int[24][];
        int n = 0;
        for (int code = 0; code < 256; code++) {
            int[] o = {code >> 6 & 3, code >> 4 & 3, code >> 2 & 3, code & 3};
            if ((1 << o[0] | 1 << o[1] | 1 << o[2] | 1 << o[3]) == 15) {
                all[n++] = o;
            }
        }
        return all;
    }

    static BigInteger[] row(long... numbers) {
        BigInteger[] row = new BigInteger[numbers.length];
        for (int i = 0; i < row.length; i++) {
            row[i] = BigInteger.valueOf(numbers[i]);
        }
        return row;
    }

    static BigInteger[] reduced(BigInteger... row) {
        BigInteger by = BigInteger.ZERO;
        int last = 0;
        for (BigInteger n : row) {
            by = by.gcd(n);
            last = n.signum() == 0 ? last : n.signum();
        }
        BigInteger[] out = new BigInteger[row.length];
        for (int i = 0; i < row.length; i++) {
            out[i] = row[i].divide(last < 0 ? by.negate() : by);
        }
        return out;
    }

    static boolean isZero(BigInteger[] row) {
        for (BigInteger n : row) {
            if (n.signum() != 0) {
                return false;
            }
        }
        return true;
    }

    static boolean alike(BigInteger[] a, BigInteger[] b) {
        return java.util.Arrays.equals(a, b);
    }

    static BigInteger greatest(BigInteger[] row) {
        BigInteger most = BigInteger.ZERO;
        for (BigInteger n : row) {
            most = most.max(n.abs());
        }
        return most;
    }

    static boolean large(BigInteger[] map) {
        return greatest(map).compareTo(LARGEST) > 0;
    }

    static boolean near(BigInteger[] point) {
        return greatest(point).compareTo(BigInteger.valueOf(9999)) <= 0;
    }

    static BigInteger dot(BigInteger[] a, BigInteger[] b) {
        return a[0].multiply(b[0]).add(a[1].multiply(b[1])).add(a[2].multiply(b[2]));
    }

    /** null if they are alike. */
    static BigInteger[] through(BigInteger[] a, BigInteger[] b) {
        BigInteger[] out = new BigInteger[3];
        for (int i = 0; i < 3; i++) {
            int j = (i + 1) % 3;
            int k = (i + 2) % 3;
            out[i] = a[j].multiply(b[k]).subtract(a[k].multiply(b[j]));
        }
        return isZero(out) ? null : reduced(out);
    }

    static BigInteger det(BigInteger[] a, BigInteger[] b, BigInteger[] c) {
        BigInteger sum = BigInteger.ZERO;
        int[][] even = {{0, 1, 2}, {1, 2, 0}, {2, 0, 1}};
        int[][] odd = {{0, 2, 1}, {2, 1, 0}, {1, 0, 2}};
        for (int[] e : even) {
            sum = sum.add(a[e[0]].multiply(b[e[1]]).multiply(c[e[2]]));
        }
        for (int[] o : odd) {
            sum = sum.subtract(a[o[0]].multiply(b[o[1]]).multiply(c[o[2]]));
        }
        return sum;
    }

    static BigInteger[] mapRow(BigInteger[] map, int row) {
        return new BigInteger[] {map[3 * row], map[3 * row + 1], map[3 * row + 2]};
    }

    static BigInteger[] image(BigInteger[] map, BigInteger[] point) {
        return reduced(dot(mapRow(map, 0), point), dot(mapRow(map, 1), point), dot(mapRow(map, 2), point));
    }

    /** Two unlike points of a line. */
    static BigInteger[][] pointsOf(BigInteger[] line) {
        BigInteger[][] axes = {row(1, 0, 0), row(0, 1, 0), row(0, 0, 1)};
        BigInteger[] first = null;
        for (BigInteger[] axis : axes) {
            BigInteger[] p = through(line, axis);
            if (p != null && first != null && !alike(p, first)) {
                return new BigInteger[][] {first, p};
            }
            first = first == null ? p : first;
        }
        throw new IllegalStateException("a line has two points");
    }

    static BigInteger[] imageOfLine(BigInteger[] map, BigInteger[] line) {
        BigInteger[][] two = pointsOf(line);
        return through(image(map, two[0]), image(map, two[1]));
    }

    static BigInteger[] product(BigInteger[] a, BigInteger[] b) {
        BigInteger[] out = new BigInteger[9];
        for (int i = 0; i < 9; i++) {
            out[i] = dot(mapRow(a, i / 3), new BigInteger[] {b[i % 3], b[3 + i % 3], b[6 + i % 3]});
        }
        return reduced(out);
    }

    /** The solution of equations that have but one, up to its share: of which all rows are 0. */
    static BigInteger[] solution(Fraction[][] rows, int width) {
        int[] pivotOf = new int[width];
        java.util.Arrays.fill(pivotOf, -1);
        int used = 0;
        for (int column = 0; column < width && used < rows.length; column++) {
            int pivot = used;
            while (pivot < rows.length && rows[pivot][column].sign() == 0) {
                pivot++;
            }
            if (pivot == rows.length) {
                continue;
            }
            Fraction[] swap = rows[pivot];
            rows[pivot] = rows[used];
            rows[used] = swap;
            clear(rows, used, column);
            pivotOf[column] = used++;
        }
        if (used != width - 1) {
            throw new IllegalStateException("not one solution");
        }
        int free = 0;
        while (pivotOf[free] >= 0) {
            free++;
        }
        Fraction[] out = new Fraction[width];
        for (int i = 0; i < width; i++) {
            out[i] = i == free ? Fraction.ONE
                : Fraction.ZERO.minus(rows[pivotOf[i]][free]).by(rows[pivotOf[i]][i]);
        }
        return whole(out);
    }

    private static void clear(Fraction[][] rows, int used, int column) {
        for (int r = 0; r < rows.length; r++) {
            if (r != used && rows[r][column].sign() != 0) {
                Fraction times = rows[r][column].by(rows[used][column]);
                for (int c = 0; c < rows[r].length; c++) {
                    rows[r][c] = rows[r][c].minus(times.times(rows[used][c]));
                }
            }
        }
    }

    private static BigInteger[] whole(Fraction[] row) {
        BigInteger all = BigInteger.ONE;
        for (Fraction f : row) {
            all = all.multiply(f.below).divide(all.gcd(f.below));
        }
        BigInteger[] out = new BigInteger[row.length];
        for (int i = 0; i < row.length; i++) {
            out[i] = row[i].above.multiply(all.divide(row[i].below));
        }
        return reduced(out);
    }

    /** The map that takes each of four points to the one of that number: nine numbers from equations. */
    static BigInteger[] between(BigInteger[][] from, BigInteger[][] to) {
        Fraction[][] rows = new Fraction[12][9];
        for (int k = 0; k < 4; k++) {
            for (int i = 0; i < 3; i++) {
                int j = (i + 1) % 3;
                Fraction[] r = rows[3 * k + i];
                java.util.Arrays.fill(r, Fraction.ZERO);
                for (int c = 0; c < 3; c++) {
                    r[3 * i + c] = Fraction.of(from[k][c].multiply(to[k][j]));
                    r[3 * j + c] = Fraction.of(from[k][c].multiply(to[k][i]).negate());
                }
            }
        }
        return solution(rows, 9);
    }

    /** By what it does: the images of three points and of 1 1 1 come back. */
    static BigInteger[] inverse(BigInteger[] map) {
        BigInteger[][] four = {row(1, 0, 0), row(0, 1, 0), row(0, 0, 1), row(1, 1, 1)};
        BigInteger[][] images = new BigInteger[4][];
        for (int i = 0; i < 4; i++) {
            images[i] = image(map, four[i]);
        }
        return between(images, four);
    }

    static boolean finite(BigInteger[] point) {
        return point[2].signum() != 0;
    }

    static Fraction x(BigInteger[] point) {
        return new Fraction(point[0], point[2]);
    }

    static Fraction y(BigInteger[] point) {
        return new Fraction(point[1], point[2]);
    }

    static Fraction squared(BigInteger[] p, BigInteger[] q) {
        Fraction across = x(q).minus(x(p));
        Fraction up = y(q).minus(y(p));
        return across.times(across).plus(up.times(up));
    }

    /** By what becomes of five points: KIND's words, tried. */
    static int kind(BigInteger[] map) {
        if (finite(image(map, row(1, 0, 0))) || finite(image(map, row(0, 1, 0)))) {
            return 5;
        }
        BigInteger[] o = image(map, row(0, 0, 1));
        BigInteger[] e = image(map, row(1, 0, 1));
        BigInteger[] n = image(map, row(0, 1, 1));
        BigInteger[] ne = image(map, row(1, 1, 1));
        Fraction grown = squared(o, e);
        if (!grown.is(squared(o, n)) || !squared(o, ne).is(grown.plus(grown))
            || !squared(e, n).is(grown.plus(grown))) {
            return 4;
        }
        if (!grown.is(Fraction.ONE)) {
            return 3;
        }
        boolean shifts = x(e).minus(x(o)).is(Fraction.ONE) && y(n).minus(y(o)).is(Fraction.ONE);
        if (!shifts) {
            return 2;
        }
        return x(o).sign() == 0 && y(o).sign() == 0 ? 0 : 1;
    }

    /** How three finite points turn. */
    static int turn(BigInteger[] p, BigInteger[] q, BigInteger[] r) {
        Fraction first = x(q).minus(x(p)).times(y(r).minus(y(p)));
        Fraction second = y(q).minus(y(p)).times(x(r).minus(x(p)));
        return first.compareTo(second);
    }

    static boolean inTriangle(BigInteger[] p, BigInteger[] a, BigInteger[] b, BigInteger[] c) {
        int one = turn(a, b, p);
        int two = turn(b, c, p);
        int three = turn(c, a, p);
        return !((one > 0 || two > 0 || three > 0) && (one < 0 || two < 0 || three < 0));
    }

    static boolean amid(BigInteger[] p, BigInteger[] a, BigInteger[] b) {
        if (turn(a, b, p) != 0) {
            return false;
        }
        return x(p).minus(x(a)).times(x(p).minus(x(b))).sign() <= 0
            && y(p).minus(y(a)).times(y(p).minus(y(b))).sign() <= 0;
    }

    /** Whether two spans have a place in common: an end on the other span, or ends to both sides. */
    static boolean touch(BigInteger[] a, BigInteger[] b, BigInteger[] c, BigInteger[] d) {
        if (amid(a, c, d) || amid(b, c, d) || amid(c, a, b) || amid(d, a, b)) {
            return true;
        }
        return turn(a, b, c) * turn(a, b, d) < 0 && turn(c, d, a) * turn(c, d, b) < 0;
    }

    /** The corner in the triangle of the three others, or -2. */
    static int dent(BigInteger[][] quad) {
        for (int k = 0; k < 4; k++) {
            if (inTriangle(quad[k], quad[(k + 1) % 4], quad[(k + 2) % 4], quad[(k + 3) % 4])) {
                return k;
            }
        }
        return -2;
    }

    static int shape(BigInteger[][] quad) {
        if (touch(quad[0], quad[1], quad[2], quad[3]) || touch(quad[1], quad[2], quad[3], quad[0])) {
            return 2;
        }
        return dent(quad) == -2 ? 0 : 1;
    }

    /** 0 outside, 1 inside, 2 on a side, by two triangles that make up the quad. */
    static int inside(BigInteger[][] quad, BigInteger[] p) {
        for (int k = 0; k < 4; k++) {
            if (amid(p, quad[k], quad[(k + 1) % 4])) {
                return 2;
            }
        }
        int k = Math.max(0, dent(quad));
        BigInteger[] across = quad[(k + 2) % 4];
        return inTriangle(p, quad[k], quad[(k + 1) % 4], across)
            || inTriangle(p, quad[k], across, quad[(k + 3) % 4]) ? 1 : 0;
    }
}
