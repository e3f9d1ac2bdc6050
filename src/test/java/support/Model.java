import java.math.BigInteger;
import java.util.ArrayDeque;
import java.util.ArrayList;
import java.util.HashMap;
import java.util.LinkedHashMap;
import java.util.LinkedHashSet;
import java.util.List;
import java.util.Map;
import java.util.NoSuchElementException;
import java.util.regex.Matcher;
import java.util.regex.Pattern;

/** A second CornerMaps, in the document's words and numbers without bounds, against which runs are held. */
final class Model {
    static final int NONE = -1;
    static final long NO = Long.MIN_VALUE;
    static final long FAR_OFF = -100000000000L;

    private final StringBuilder tape = new StringBuilder();
    private int lines;
    private List<BigInteger[][]> quads = new ArrayList<>();
    private List<BigInteger[]> maps = new ArrayList<>();
    private List<BigInteger[]> points = new ArrayList<>();
    private int fault;
    private int faultPlace = NONE;
    private final ArrayDeque<Object[]> past = new ArrayDeque<>();

    // ---- text

    public int feed(int a, int b, int c, int d, int e) {
        if (tape.length() > 880) {
            return NONE;
        }
        for (int n : new int[] {a, b, c, d, e}) {
            tape.append((char) (n >>> 24)).append((char) (n >> 16 & 255)).append((char) (n >> 8 & 255))
                .append((char) (n & 255));
        }
        return tape.length();
    }

    public int text(int n) {
        if (n < 0 || n > tape.length()) {
            return -2;
        }
        String text = tape.substring(0, n);
        tape.setLength(0);
        Told told = new Told(text);
        fault = 0;
        faultPlace = NONE;
        try {
            told.all();
        } catch (Fault f) {
            fault = f.what;
            faultPlace = f.place;
            return NONE;
        }
        lines = told.lines;
        quads = new ArrayList<>(told.quads.values());
        maps = new ArrayList<>(told.maps.values());
        points = told.points;
        past.clear();
        return lines;
    }

    public int fault(int what) {
        return what == 0 ? fault : what == 1 ? faultPlace : NONE;
    }

    private static final class Fault extends RuntimeException {
        private static final long serialVersionUID = 1;
        final int what;
        final int place;

        Fault(int what, int place) {
            this.what = what;
            this.place = place;
        }
    }

    /** A text, cut into tokens beforehand. */
    private static final class Told {
        final List<String> tokens = new ArrayList<>();
        final List<Integer> places = new ArrayList<>();
        final Map<String, BigInteger[][]> quads = new LinkedHashMap<>();
        final Map<String, BigInteger[]> maps = new LinkedHashMap<>();
        final List<BigInteger[]> points = new ArrayList<>();
        int lines;
        int at;

        Told(String text) {
            Matcher m = Pattern.compile("[a-z]+|[0-9]+|[^ \\n]", Pattern.DOTALL).matcher(text);
            while (m.find()) {
                tokens.add(m.group());
                places.add(m.start());
            }
            tokens.add("");
            places.add(text.length());
        }

        String token() {
            return tokens.get(at);
        }

        Fault no(int what) {
            return new Fault(what, places.get(at));
        }

        void all() {
            while (!token().isEmpty()) {
                switch (token()) {
                    case "quad": quad(); break;
                    case "map": map(); break;
                    case "point": point(); break;
                    default: throw no(1);
                }
                at++;
                lines++;
            }
        }

        void atMostEight(int there) {
            if (there == 8) {
                throw no(2);
            }
            at++;
        }

        String word() {
            if (!token().matches("[a-z]{1,6}") || token().matches("quad|map|point")) {
                throw no(1);
            }
            return token();
        }

        BigInteger number(int most) {
            int first = places.get(at);
            boolean below = token().equals("-");
            if (below) {
                at++;
            }
            if (!token().matches("[0-9]+")) {
                throw no(1);
            }
            BigInteger n = new BigInteger(token());
            if (n.compareTo(BigInteger.valueOf(most)) > 0) {
                throw new Fault(2, first);
            }
            at++;
            return below ? n.negate() : n;
        }

        void stop() {
            if (!token().equals(";")) {
                throw no(1);
            }
        }

        void quad() {
            atMostEight(quads.size());
            String name = word();
            if (quads.containsKey(name)) {
                throw no(3);
            }
            at++;
            BigInteger[][] c = new BigInteger[4][];
            for (int k = 0; k < 4; k++) {
                BigInteger x = number(20);
                c[k] = new BigInteger[] {x, number(20), BigInteger.ONE};
            }
            stop();
            for (int k = 0; k < 4; k++) {
                if (Exact.turn(c[k], c[(k + 1) % 4], c[(k + 2) % 4]) == 0) {
                    throw no(4);
                }
            }
            quads.put(name, c);
        }

        BigInteger[][] toldQuad() {
            BigInteger[][] quad = quads.get(word());
            if (quad == null) {
                throw no(1);
            }
            at++;
            return quad;
        }

        void map() {
            atMostEight(maps.size());
            String name = word();
            if (maps.containsKey(name)) {
                throw no(3);
            }
            at++;
            BigInteger[][] from = toldQuad();
            BigInteger[][] to = toldQuad();
            stop();
            BigInteger[] map = Exact.between(from, to);
            if (Exact.large(map)) {
                throw no(4);
            }
            maps.put(name, map);
        }

        void point() {
            atMostEight(points.size());
            BigInteger x = number(9999);
            BigInteger y = number(9999);
            BigInteger w = number(9999);
            stop();
            BigInteger[] p = {x, y, w};
            if (Exact.isZero(p)) {
                throw no(4);
            }
            points.add(Exact.reduced(p));
        }
    }

    // ---- what calls may tell

    private boolean q(int q) {
        return q >= 0 && q < quads.size();
    }

    private boolean m(int m) {
        return m >= 0 && m < maps.size();
    }

    private boolean p(int... all) {
        for (int p : all) {
            if (p < 0 || p >= points.size()) {
                return false;
            }
        }
        return true;
    }

    private static boolean in(int n, int least, int most) {
        return n >= least && n <= most;
    }

    private static boolean triple(int x, int y, int w) {
        return in(x, -9999, 9999) && in(y, -9999, 9999) && in(w, -9999, 9999) && (x != 0 || y != 0 || w != 0);
    }

    private static int bit(boolean so) {
        return so ? 1 : 0;
    }

    private BigInteger[] point(int p) {
        return points.get(p);
    }

    private boolean far(int... all) {
        for (int p : all) {
            if (p(p) && !Exact.finite(point(p))) {
                return true;
            }
        }
        return false;
    }

    private static long longOf(BigInteger n) {
        return n.longValueExact();
    }

    // ---- what there is

    public int corner(int q, int k, int what) {
        if (!q(q) || !in(k, 0, 3)) {
            throw new IndexOutOfBoundsException();
        }
        if (!in(what, 0, 1)) {
            throw new NoSuchElementException();
        }
        return quads.get(q)[k][what].intValueExact();
    }

    public int map(int m, int row, int place) {
        if (!m(m)) {
            throw new IndexOutOfBoundsException();
        }
        if (!in(row, 0, 2) || !in(place, 0, 2)) {
            throw new NoSuchElementException();
        }
        return Exact.mapRow(maps.get(m), row)[place].intValueExact();
    }

    public int point(int p, int what) {
        if (!p(p)) {
            throw new IndexOutOfBoundsException();
        }
        if (!in(what, 0, 2)) {
            throw new NoSuchElementException();
        }
        return point(p)[what].intValueExact();
    }

    public int shape(int q) {
        return q(q) ? Exact.shape(quads.get(q)) : NONE;
    }

    public int dent(int q) {
        return q(q) ? Exact.dent(quads.get(q)) : NONE;
    }

    public int area(int q) {
        if (!q(q)) {
            return -100000;
        }
        BigInteger[][] c = quads.get(q);
        // Of both diagonals the determinant.
        BigInteger ax = c[2][0].subtract(c[0][0]);
        BigInteger ay = c[2][1].subtract(c[0][1]);
        BigInteger bx = c[3][0].subtract(c[1][0]);
        BigInteger by = c[3][1].subtract(c[1][1]);
        return ax.multiply(by).subtract(ay.multiply(bx)).intValueExact();
    }

    // ---- made, dropped, told, moved, undone

    private void remember() {
        past.addLast(new Object[] {new ArrayList<>(maps), new ArrayList<>(points)});
        if (past.size() > 16) {
            past.removeFirst();
        }
    }

    private int comes(BigInteger[] map) {
        if (Exact.large(map)) {
            return -2;
        }
        if (maps.size() == 16) {
            return -3;
        }
        remember();
        maps.add(map);
        return maps.size() - 1;
    }

    private BigInteger[] byOrder(int q, int r, int order) {
        BigInteger[][] to = new BigInteger[4][];
        for (int k = 0; k < 4; k++) {
            to[k] = quads.get(r)[Exact.ORDERS[order][k]];
        }
        return Exact.between(quads.get(q), to);
    }

    public int make(int from, int to) {
        return q(from) && q(to) ? comes(byOrder(from, to, 0)) : NONE;
    }

    public int square(int q, int n) {
        if (!q(q) || !in(n, 1, 20)) {
            return NONE;
        }
        BigInteger[][] to = {Exact.row(0, 0, 1), Exact.row(n, 0, 1), Exact.row(n, n, 1), Exact.row(0, n, 1)};
        return comes(Exact.between(quads.get(q), to));
    }

    public int product(int a, int b) {
        return m(a) && m(b) ? comes(Exact.product(maps.get(a), maps.get(b))) : NONE;
    }

    public int inverse(int m) {
        return m(m) ? comes(Exact.inverse(maps.get(m))) : NONE;
    }

    public int power(int m, int n) {
        if (!m(m) || !in(n, 0, 12)) {
            return NONE;
        }
        BigInteger[] power = Exact.NOTHING;
        for (int i = 0; i < n; i++) {
            power = Exact.product(power, maps.get(m));
            if (Exact.large(power)) {
                return -2;
            }
        }
        return comes(power);
    }

    public int drop(int m) {
        if (!m(m)) {
            return NONE;
        }
        remember();
        maps.remove(m);
        return maps.size();
    }

    public int tell(int x, int y, int w) {
        if (!in(x, -9999, 9999) || !in(y, -9999, 9999) || !in(w, -9999, 9999)) {
            return NONE;
        }
        if (points.size() == 8 || !triple(x, y, w)) {
            return -2;
        }
        remember();
        points.add(Exact.reduced(Exact.row(x, y, w)));
        return points.size() - 1;
    }

    public int moves(int m) {
        if (!m(m)) {
            return NONE;
        }
        List<BigInteger[]> moved = new ArrayList<>();
        int far = 0;
        for (BigInteger[] p : points) {
            BigInteger[] image = Exact.image(maps.get(m), p);
            if (!Exact.near(image)) {
                return -2;
            }
            far += Exact.finite(image) ? 0 : 1;
            moved.add(image);
        }
        remember();
        points = moved;
        return far;
    }

    @SuppressWarnings("unchecked")
    public int undo() {
        if (past.isEmpty()) {
            return NONE;
        }
        Object[] before = past.removeLast();
        maps = (List<BigInteger[]>) before[0];
        points = (List<BigInteger[]>) before[1];
        return past.size();
    }

    // ---- by a map

    public long image(int m, int x, int y, int w, int what) {
        if (!m(m) || !triple(x, y, w) || !in(what, 0, 2)) {
            return NO;
        }
        return longOf(Exact.image(maps.get(m), Exact.row(x, y, w))[what]);
    }

    public long before(int m, int x, int y, int w, int what) {
        if (!m(m) || !triple(x, y, w) || !in(what, 0, 2)) {
            return NO;
        }
        BigInteger[] back = Exact.inverse(maps.get(m));
        return Exact.large(back) ? FAR_OFF : longOf(Exact.image(back, Exact.row(x, y, w))[what]);
    }

    public long line(int m, int a, int b, int c, int what) {
        if (!m(m) || !triple(a, b, c) || !in(what, 0, 2)) {
            return NO;
        }
        if (Exact.large(Exact.inverse(maps.get(m)))) {
            return FAR_OFF;
        }
        return longOf(Exact.imageOfLine(maps.get(m), Exact.reduced(Exact.row(a, b, c)))[what]);
    }

    public long horizon(int m, int what) {
        if (!m(m) || !in(what, 0, 2)) {
            return NO;
        }
        return longOf(Exact.imageOfLine(Exact.inverse(maps.get(m)), Exact.row(0, 0, 1))[what]);
    }

    public long vanishing(int m, int what) {
        if (!m(m) || !in(what, 0, 2)) {
            return NO;
        }
        return longOf(Exact.imageOfLine(maps.get(m), Exact.row(0, 0, 1))[what]);
    }

    private boolean cutBetween(BigInteger[] map, BigInteger[] p, BigInteger[] q) {
        BigInteger[] horizon = Exact.mapRow(map, 2);
        Fraction atP = new Fraction(Exact.dot(horizon, p), p[2]);
        Fraction atQ = new Fraction(Exact.dot(horizon, q), q[2]);
        return atP.times(atQ).sign() <= 0;
    }

    public int cut(int m, int p, int q) {
        if (!m(m) || !p(p, q)) {
            return NONE;
        }
        return far(p, q) ? -2 : bit(cutBetween(maps.get(m), point(p), point(q)));
    }

    public int cutSides(int m, int q) {
        if (!m(m) || !q(q)) {
            return NONE;
        }
        int sides = 0;
        for (int k = 0; k < 4; k++) {
            sides += bit(cutBetween(maps.get(m), quads.get(q)[k], quads.get(q)[(k + 1) % 4])) << k;
        }
        return sides;
    }

    public int kind(int m) {
        return m(m) ? Exact.kind(maps.get(m)) : NONE;
    }

    public int turn(int m) {
        if (!m(m)) {
            return 0;
        }
        BigInteger[] map = maps.get(m);
        if (Exact.greatest(map).compareTo(BigInteger.valueOf(1000000)) > 0) {
            return 2;
        }
        return Exact.det(Exact.mapRow(map, 0), Exact.mapRow(map, 1), Exact.mapRow(map, 2)).signum();
    }

    public int order(int m) {
        if (!m(m)) {
            return NONE;
        }
        BigInteger[] power = maps.get(m);
        for (int n = 1; n <= 12 && !Exact.large(power); n++) {
            if (Exact.alike(power, Exact.NOTHING)) {
                return n;
            }
            power = Exact.product(power, maps.get(m));
        }
        return -2;
    }

    public int same(int a, int b) {
        return m(a) && m(b) ? bit(Exact.alike(maps.get(a), maps.get(b))) : NONE;
    }

    public int commute(int a, int b) {
        return m(a) && m(b) ? bit(both(a, b)) : NONE;
    }

    private boolean both(int a, int b) {
        return Exact.alike(Exact.product(maps.get(a), maps.get(b)), Exact.product(maps.get(b), maps.get(a)));
    }

    public int undoes(int a, int b) {
        return m(a) && m(b) ? bit(Exact.alike(maps.get(a), Exact.inverse(maps.get(b)))) : NONE;
    }

    public int stays(int m, int p) {
        return m(m) && p(p) ? bit(Exact.alike(Exact.image(maps.get(m), point(p)), point(p))) : NONE;
    }

    public int points(int m, int what) {
        if (!m(m) || !in(what, 0, 2)) {
            return NONE;
        }
        int count = 0;
        for (BigInteger[] p : points) {
            BigInteger[] image = Exact.image(maps.get(m), p);
            boolean[] so = {Exact.alike(image, p), !Exact.finite(image),
                Exact.finite(image) && !Exact.finite(p)};
            count += bit(so[what]);
        }
        return count;
    }

    // ---- points and lines

    public long join(int p, int q, int what) {
        if (!p(p, q) || !in(what, 0, 2)) {
            return NO;
        }
        BigInteger[] line = Exact.through(point(p), point(q));
        return line == null ? FAR_OFF : longOf(line[what]);
    }

    private boolean line(int p, int q, int r) {
        return Exact.det(point(p), point(q), point(r)).signum() == 0;
    }

    public int inLine(int p, int q, int r) {
        return p(p, q, r) ? bit(line(p, q, r)) : NONE;
    }

    public long meet(int p, int q, int r, int s, int what) {
        if (!p(p, q, r, s) || !in(what, 0, 2)) {
            return NO;
        }
        BigInteger[] one = Exact.through(point(p), point(q));
        BigInteger[] two = Exact.through(point(r), point(s));
        if (one == null || two == null || Exact.alike(one, two)) {
            return FAR_OFF;
        }
        return longOf(Exact.through(one, two)[what]);
    }

    private BigInteger[] outside(int... all) {
        BigInteger[][] tried = {Exact.row(3, 1, 7), Exact.row(1, 5, -2), Exact.row(-8, 3, 5)};
        for (BigInteger[] o : tried) {
            boolean out = false;
            for (int a : all) {
                for (int b : all) {
                    out |= Exact.det(o, point(a), point(b)).signum() != 0;
                }
            }
            if (out) {
                return o;
            }
        }
        throw new IllegalStateException("no point outside");
    }

    public long share(int p, int q, int r, int s, int part) {
        if (!p(p, q, r, s) || !in(part, 0, 1)) {
            return NO;
        }
        HashMap<String, Integer> seen = new HashMap<>();
        for (int i : new int[] {p, q, r, s}) {
            seen.merge(java.util.Arrays.toString(point(i)), 1, Integer::sum);
        }
        boolean three = seen.values().stream().anyMatch(n -> n > 2);
        if (three || !line(p, q, r) || !line(p, q, s) || !line(p, r, s) || !line(q, r, s)) {
            return FAR_OFF;
        }
        BigInteger[] o = outside(p, q, r, s);
        BigInteger above = Exact.det(o, point(p), point(r)).multiply(Exact.det(o, point(q), point(s)));
        BigInteger below = Exact.det(o, point(q), point(r)).multiply(Exact.det(o, point(p), point(s)));
        if (below.signum() == 0) {
            return part == 0 ? 1 : 0;
        }
        Fraction share = new Fraction(above, below);
        return longOf(part == 0 ? share.above : share.below);
    }

    /** With a straightedge: by four lines through a point outside. */
    public long fourth(int p, int q, int r, int what) {
        if (!p(p, q, r) || !in(what, 0, 2)) {
            return NO;
        }
        if (!line(p, q, r) || Exact.alike(point(p), point(q)) || Exact.alike(point(p), point(r))
            || Exact.alike(point(q), point(r))) {
            return FAR_OFF;
        }
        BigInteger[] o = outside(p, q, r);
        BigInteger[] x = {o[0].add(point(r)[0]), o[1].add(point(r)[1]), o[2].add(point(r)[2])};
        BigInteger[] a = Exact.through(Exact.through(point(p), x), Exact.through(o, point(q)));
        BigInteger[] b = Exact.through(Exact.through(point(q), x), Exact.through(o, point(p)));
        return longOf(Exact.through(Exact.through(a, b), Exact.through(point(p), point(q)))[what]);
    }

    /** null if it doesn't go so far. */
    private BigInteger[] onTrack(int m, int p, int n) {
        BigInteger[] at = point(p);
        for (int i = 0; i < n && at != null; i++) {
            at = Exact.image(maps.get(m), at);
            at = Exact.near(at) ? at : null;
        }
        return at;
    }

    public long track(int m, int p, int n, int what) {
        if (!m(m) || !p(p) || !in(n, 0, 20) || !in(what, 0, 2)) {
            return NO;
        }
        BigInteger[] at = onTrack(m, p, n);
        return at == null ? FAR_OFF : longOf(at[what]);
    }

    public int cycle(int m, int p) {
        if (!m(m) || !p(p)) {
            return NONE;
        }
        for (int n = 1; n <= 20; n++) {
            BigInteger[] at = onTrack(m, p, n);
            if (at != null && Exact.alike(at, point(p))) {
                return n;
            }
        }
        return -2;
    }

    public int whole(int m, int n) {
        if (!m(m) || !in(n, 0, 9)) {
            return NONE;
        }
        int count = 0;
        for (int i = 0; i < (2 * n + 1) * (2 * n + 1); i++) {
            BigInteger[] at = Exact.row(i % (2 * n + 1) - n, i / (2 * n + 1) - n, 1);
            count += bit(Exact.image(maps.get(m), at)[2].equals(BigInteger.ONE));
        }
        return count;
    }

    // ---- quads

    public int inside(int q, int p) {
        if (!q(q) || !p(p)) {
            return NONE;
        }
        if (far(p)) {
            return -2;
        }
        return Exact.shape(quads.get(q)) == 2 ? -3 : Exact.inside(quads.get(q), point(p));
    }

    public int crossings(int q, int r) {
        if (!q(q) || !q(r)) {
            return NONE;
        }
        BigInteger[][] a = quads.get(q);
        BigInteger[][] b = quads.get(r);
        int count = 0;
        for (int i = 0; i < 16; i++) {
            count += bit(Exact.touch(a[i / 4], a[(i / 4 + 1) % 4], b[i % 4], b[(i % 4 + 1) % 4]));
        }
        return count;
    }

    private BigInteger[] drawnOut(int q, int k) {
        int[][] ends = {{0, 1, 2, 3}, {1, 2, 3, 0}, {0, 2, 1, 3}};
        BigInteger[][] c = quads.get(q);
        return Exact.through(Exact.through(c[ends[k][0]], c[ends[k][1]]),
            Exact.through(c[ends[k][2]], c[ends[k][3]]));
    }

    public long diagonal(int q, int k, int what) {
        return q(q) && in(k, 0, 2) && in(what, 0, 2) ? longOf(drawnOut(q, k)[what]) : NO;
    }

    public int parallel(int m, int q) {
        if (!m(m) || !q(q)) {
            return NONE;
        }
        BigInteger[][] c = quads.get(q);
        int sides = 0;
        for (int k = 0; k < 2; k++) {
            BigInteger[] one = Exact.imageOfLine(maps.get(m), Exact.through(c[k], c[k + 1]));
            BigInteger[] two = Exact.imageOfLine(maps.get(m), Exact.through(c[k + 2], c[(k + 3) % 4]));
            sides += bit(!Exact.finite(Exact.through(one, two))) << k;
        }
        return sides;
    }

    private BigInteger[][] imagesOf(int m, int q) {
        BigInteger[][] images = new BigInteger[4][];
        for (int k = 0; k < 4; k++) {
            images[k] = Exact.image(maps.get(m), quads.get(q)[k]);
            if (!Exact.finite(images[k])) {
                return null;
            }
        }
        return images;
    }

    public int shapeBy(int m, int q) {
        if (!m(m) || !q(q)) {
            return NONE;
        }
        BigInteger[][] images = imagesOf(m, q);
        return images == null ? -2 : Exact.shape(images);
    }

    public int symmetries(int q, int kind) {
        if (!q(q) || !in(kind, 0, 5)) {
            return NONE;
        }
        int count = 0;
        for (int k = 0; k < 24; k++) {
            count += bit(Exact.kind(byOrder(q, q, k)) <= kind);
        }
        return count;
    }

    public int symmetry(int q, int k) {
        return q(q) && in(k, 0, 23) ? comes(byOrder(q, q, k)) : NONE;
    }

    // ---- maps that come of others

    private List<Integer> rowFor(int m) {
        int n = maps.size();
        for (int length = 1; length <= 3; length++) {
            for (int code = 0; code < Math.pow(n, length); code++) {
                List<Integer> row = new ArrayList<>();
                for (int i = 0, rest = code; i < length; i++, rest /= n) {
                    row.add(0, rest % n);
                }
                if (!row.contains(m) && comesTo(row, m)) {
                    return row;
                }
            }
        }
        return new ArrayList<>();
    }

    private boolean comesTo(List<Integer> row, int m) {
        BigInteger[] map = maps.get(row.get(row.size() - 1));
        for (int i = row.size() - 2; i >= 0; i--) {
            if (Exact.large(map)) {
                return false;
            }
            map = Exact.product(maps.get(row.get(i)), map);
        }
        return Exact.alike(map, maps.get(m));
    }

    public int word(int m, int k) {
        if (!m(m) || k < -1) {
            return NONE;
        }
        List<Integer> row = rowFor(m);
        if (row.isEmpty() || k >= row.size()) {
            return -2;
        }
        return k == NONE ? row.size() : row.get(k);
    }

    public int generated(int n) {
        if (!in(n, 1, 2)) {
            return NONE;
        }
        LinkedHashSet<String> all = new LinkedHashSet<>();
        for (BigInteger[] a : maps) {
            all.add(java.util.Arrays.toString(a));
            for (BigInteger[] b : maps) {
                if (n == 2) {
                    all.add(java.util.Arrays.toString(Exact.product(a, b)));
                }
            }
        }
        return all.size();
    }

    public int leads(int p, int q, int n) {
        if (!p(p, q) || !in(n, 1, 3)) {
            return NONE;
        }
        for (int m = 0; m < maps.size(); m++) {
            BigInteger[] at = onTrack(m, p, n);
            if (at != null && Exact.alike(at, point(q))) {
                return m;
            }
        }
        return -2;
    }

    public long pull(int m, int a, int b, int c, int what) {
        if (!m(m) || !triple(a, b, c) || !in(what, 0, 2)) {
            return NO;
        }
        return longOf(Exact.imageOfLine(Exact.inverse(maps.get(m)), Exact.reduced(Exact.row(a, b, c)))[what]);
    }

    public int keepsLine(int m, int a, int b, int c) {
        if (!m(m) || !triple(a, b, c)) {
            return NONE;
        }
        BigInteger[] line = Exact.reduced(Exact.row(a, b, c));
        return bit(Exact.alike(Exact.imageOfLine(maps.get(m), line), line));
    }

    public long side(int q, int k, int what) {
        if (!q(q) || !in(k, 0, 3) || !in(what, 0, 2)) {
            return NO;
        }
        return longOf(Exact.through(quads.get(q)[k], quads.get(q)[(k + 1) % 4])[what]);
    }

    public int turnOf(int p, int q, int r) {
        if (far(p, q, r)) {
            return -2;
        }
        return p(p, q, r) ? Exact.turn(point(p), point(q), point(r)) : -3;
    }

    public long gap(int p, int q, int part) {
        if (!p(p, q) || !in(part, 0, 1)) {
            return NO;
        }
        if (far(p, q)) {
            return -2;
        }
        Fraction gap = Exact.squared(point(p), point(q));
        return longOf(part == 0 ? gap.above : gap.below);
    }

    public long middle(int p, int q, int what) {
        if (!p(p, q) || !in(what, 0, 2)) {
            return NO;
        }
        if (far(p, q)) {
            return FAR_OFF;
        }
        Fraction half = new Fraction(BigInteger.ONE, BigInteger.TWO);
        Fraction x = Exact.x(point(p)).plus(Exact.x(point(q))).times(half);
        Fraction y = Exact.y(point(p)).plus(Exact.y(point(q))).times(half);
        return longOf(Exact.reduced(x.above.multiply(y.below), y.above.multiply(x.below),
            x.below.multiply(y.below))[what]);
    }

    public int partner(int m) {
        if (!m(m)) {
            return NONE;
        }
        BigInteger[] back = Exact.inverse(maps.get(m));
        for (int i = 0; i < maps.size(); i++) {
            if (Exact.alike(maps.get(i), back)) {
                return i;
            }
        }
        return -2;
    }

    public long cornerBy(int m, int q, int k, int what) {
        if (!m(m) || !q(q) || !in(k, 0, 3) || !in(what, 0, 2)) {
            return NO;
        }
        return longOf(Exact.image(maps.get(m), quads.get(q)[k])[what]);
    }

    public long scale(int m, int part) {
        if (!m(m) || !in(part, 0, 1)) {
            return NO;
        }
        if (Exact.kind(maps.get(m)) > 3) {
            return -2;
        }
        Fraction grown = Exact.squared(Exact.image(maps.get(m), Exact.row(0, 0, 1)),
            Exact.image(maps.get(m), Exact.row(1, 0, 1)));
        return longOf(part == 0 ? grown.above : grown.below);
    }

    public int likeness(int q, int r, int what) {
        if (!q(q) || !q(r) || !in(what, 0, 1)) {
            return NONE;
        }
        for (int kind = 0; kind <= 5; kind++) {
            for (int k = 0; k < 24; k++) {
                if (Exact.kind(byOrder(q, r, k)) == kind) {
                    return what == 0 ? kind : k;
                }
            }
        }
        throw new IllegalStateException();
    }

    private int hit(int m, int q, int r) {
        int count = 0;
        for (BigInteger[] c : quads.get(q)) {
            for (BigInteger[] d : quads.get(r)) {
                count += bit(Exact.alike(Exact.image(maps.get(m), c), d));
            }
        }
        return count;
    }

    public int hits(int m, int q, int r) {
        return m(m) && q(q) && q(r) ? hit(m, q, r) : NONE;
    }

    public int goesTo(int m, int q) {
        if (!m(m) || !q(q)) {
            return NONE;
        }
        int count = 0;
        for (int r = 0; r < quads.size(); r++) {
            count += bit(hit(m, q, r) == 4);
        }
        return count;
    }

    public long farthest(int m) {
        if (!m(m)) {
            return NO;
        }
        BigInteger most = BigInteger.ZERO;
        for (BigInteger[] p : points) {
            most = most.max(Exact.greatest(Exact.image(maps.get(m), p)));
        }
        return longOf(most);
    }

    // ---- all maps together

    public int biggest(int what) {
        if (!in(what, 0, 1)) {
            return NONE;
        }
        int best = -2;
        for (int m = 0; m < maps.size(); m++) {
            int than = best < 0 ? 1
                : Exact.greatest(maps.get(m)).compareTo(Exact.greatest(maps.get(best)));
            if (best < 0 || (what == 0 ? than > 0 : than < 0)) {
                best = m;
            }
        }
        return best;
    }

    public int kinds(int kind) {
        return in(kind, 0, 5) ? (int) maps.stream().filter(m -> Exact.kind(m) == kind).count() : NONE;
    }

    public int pairs(int what) {
        if (!in(what, 0, 2)) {
            return NONE;
        }
        int count = 0;
        for (int a = 0; a < maps.size(); a++) {
            for (int b = a + 1; b < maps.size(); b++) {
                count += what == 0 ? commute(a, b) : what == 1 ? undoes(a, b) : same(a, b);
            }
        }
        return count;
    }

    public int spell(int m, int i) {
        if (!m(m) || i < -1) {
            return NONE;
        }
        String spelled = java.util.Arrays.toString(maps.get(m)).replaceAll("[\\[\\],]", "");
        return i == -1 ? spelled.length() : i < spelled.length() ? spelled.charAt(i) : -2;
    }

    public int kept(int m) {
        if (!m(m)) {
            return NONE;
        }
        int all = 0;
        for (int q = 0; q < quads.size(); q++) {
            all += bit(imagesOf(m, q) != null) << q;
        }
        return all;
    }

    public int find(int from, int to) {
        if (!q(from) || !q(to)) {
            return NONE;
        }
        for (int m = 0; m < maps.size(); m++) {
            boolean all = true;
            for (int k = 0; k < 4; k++) {
                all &= Exact.alike(Exact.image(maps.get(m), quads.get(from)[k]), quads.get(to)[k]);
            }
            if (all) {
                return m;
            }
        }
        return -2;
    }

    public int size(int m) {
        return m(m) ? Exact.greatest(maps.get(m)).intValueExact() : NONE;
    }

    public int count(int what) {
        int finite = (int) points.stream().filter(Exact::finite).count();
        int[] all = {lines, quads.size(), maps.size(), points.size(), finite, past.size(), tape.length()};
        return in(what, 0, 6) ? all[what] : NONE;
    }
}
