import java.util.NoSuchElementException;

/**
 * Four-corner maps: maps of the plane that keep lines straight, from four points to four, in whole
 * numbers. The words in capitals are those of the document, ../shared/DOC.md.
 */
public final class CornerMaps {
    public static final int NONE = -1;
    public static final long NO = Long.MIN_VALUE;

    private static final int NOT_SO = -2;
    private static final int NOT_MORE = -3;
    private static final int CROSSED_QUAD = -3;
    private static final int NO_SUCH_TURN = -3;
    private static final int NO_SUCH_AREA = -100000;
    private static final long NOT_THERE = -100000000000L;

    private static final int MOST_QUADS = 8;
    private static final int MOST_MAPS_OF_A_TEXT = 8;
    private static final int MOST_MAPS = 16;
    private static final int MOST_POINTS = 8;
    private static final int MOST_BYTES = 900;
    private static final int MOST_DEEDS = 16;
    private static final int FARTHEST_CORNER = 20;
    private static final int GREATEST_NUMBER = 9999;
    private static final long LARGEST = 1000000000L;
    private static final long LARGEST_TO_TURN = 1000000L;
    private static final int LONGEST_SIDE = 20;
    private static final int HIGHEST_POWER = 12;
    private static final int LONGEST_TRACK = 20;
    private static final int WIDEST_WHOLE = 9;
    private static final int LONGEST_LEAD = 3;

    private static final int FINITE_KIND = 4;
    private static final int ANY_KIND = 5;
    private static final int ALIKE_KIND = 3;

    private static final int CONVEX = 0;
    private static final int DENTED = 1;
    private static final int CROSSED = 2;

    private static final int ORDER_COUNT = 24;
    private static final int[] ORDERS = {
        0, 1, 2, 3, 0, 1, 3, 2, 0, 2, 1, 3, 0, 2, 3, 1, 0, 3, 1, 2, 0, 3, 2, 1,
        1, 0, 2, 3, 1, 0, 3, 2, 1, 2, 0, 3, 1, 2, 3, 0, 1, 3, 0, 2, 1, 3, 2, 0,
        2, 0, 1, 3, 2, 0, 3, 1, 2, 1, 0, 3, 2, 1, 3, 0, 2, 3, 0, 1, 2, 3, 1, 0,
        3, 0, 1, 2, 3, 0, 2, 1, 3, 1, 0, 2, 3, 1, 2, 0, 3, 2, 0, 1, 3, 2, 1, 0,
    };
    /** Corners by fours: a line through the first two, one through the last two. */
    private static final int[] DIAGONALS = {0, 1, 2, 3, 1, 2, 3, 0, 0, 2, 1, 3};
    private static final long[] NOTHING = {1, 0, 0, 0, 1, 0, 0, 0, 1};
    private static final long[] FAR_LINE = {0, 0, 1};

    private Plane plane;
    /** A text is read into the spare plane, so that one with a fault changes nothing. */
    private Plane spare;
    private final Tape tape;
    private final Reader reader;
    private final Past past;
    private final Maker maker;
    private final Pairs products;
    private final StringBuilder spelled;

    // Rows that calls work with; kept, so that calls make no objects.
    private final long[] work;
    private final long[] otherWork;
    private final long[] risen;
    private final long[] given;
    private final long[] result;
    private final long[] step;
    private final long[] firstLine;
    private final long[] secondLine;
    private final long[][] moved;
    private final int[] found;

    public CornerMaps() {
        plane = new Plane();
        spare = new Plane();
        tape = new Tape();
        maker = new Maker();
        reader = new Reader(tape, maker, spare);
        past = new Past();
        products = new Pairs();
        spelled = new StringBuilder();
        work = new long[9];
        otherWork = new long[9];
        risen = new long[9];
        given = new long[3];
        result = new long[3];
        step = new long[3];
        firstLine = new long[3];
        secondLine = new long[3];
        moved = new long[MOST_POINTS][3];
        found = new int[3];
    }

    // ---- the tape and the text

    public int feed(int a, int b, int c, int d, int e) {
        if (!tape.hasRoomFor(20)) {
            return NONE;
        }
        tape.put(a);
        tape.put(b);
        tape.put(c);
        tape.put(d);
        tape.put(e);
        return tape.length;
    }

    public int text(int n) {
        if (n < 0 || n > tape.length) {
            return NOT_SO;
        }
        boolean good = reader.read(n, spare);
        tape.length = 0;
        if (!good) {
            return NONE;
        }
        Plane old = plane;
        plane = spare;
        spare = old;
        past.forget();
        return plane.lineCount;
    }

    public int fault(int what) {
        if (what == 0) {
            return reader.fault;
        }
        return what == 1 ? reader.faultPlace : NONE;
    }

    // ---- what there is

    public int corner(int q, int k, int what) throws IndexOutOfBoundsException, NoSuchElementException {
        if (!plane.hasQuad(q) || !isCorner(k)) {
            throw new IndexOutOfBoundsException();
        }
        if (!isPart(what)) {
            throw new NoSuchElementException();
        }
        return (int) plane.quads[q].corners[k][what];
    }

    public int map(int m, int row, int place) throws IndexOutOfBoundsException, NoSuchElementException {
        if (!plane.hasMap(m)) {
            throw new IndexOutOfBoundsException();
        }
        if (!isThird(row) || !isThird(place)) {
            throw new NoSuchElementException();
        }
        return (int) plane.maps[m][3 * row + place];
    }

    public int point(int p, int what) throws IndexOutOfBoundsException, NoSuchElementException {
        if (!plane.hasPoint(p)) {
            throw new IndexOutOfBoundsException();
        }
        if (!isThird(what)) {
            throw new NoSuchElementException();
        }
        return (int) plane.points[p][what];
    }

    public int shape(int q) {
        return plane.hasQuad(q) ? Quad.formOf(plane.quads[q].leftTurns()) : NONE;
    }

    public int dent(int q) {
        if (!plane.hasQuad(q)) {
            return NONE;
        }
        int left = plane.quads[q].leftTurns();
        if (Quad.formOf(left) != DENTED) {
            return NOT_SO;
        }
        // The corner within turns the other way than the three others do.
        int odd = Integer.bitCount(left) == 1 ? left : 15 - left;
        for (int k = 0; k < 3; k++) {
            if (odd == 1 << k) {
                return k;
            }
        }
        return 3;
    }

    public int area(int q) {
        return plane.hasQuad(q) ? (int) plane.quads[q].doubledArea() : NO_SUCH_AREA;
    }

    // ---- maps made and dropped

    public int make(int from, int to) {
        if (!plane.hasQuad(from) || !plane.hasQuad(to)) {
            return NONE;
        }
        maker.between(plane.quads[from], plane.quads[to], 0, work);
        return keepMap(work);
    }

    public int square(int q, int n) {
        if (!plane.hasQuad(q) || n < 1 || n > LONGEST_SIDE) {
            return NONE;
        }
        maker.toSquare(plane.quads[q], n, work);
        return keepMap(work);
    }

    public int product(int a, int b) {
        if (!plane.hasMap(a) || !plane.hasMap(b)) {
            return NONE;
        }
        Maps.multiply(plane.maps[a], plane.maps[b], work);
        return keepMap(work);
    }

    public int inverse(int m) {
        if (!plane.hasMap(m)) {
            return NONE;
        }
        Maps.invert(plane.maps[m], work);
        return keepMap(work);
    }

    public int power(int m, int n) {
        if (!plane.hasMap(m) || n < 0 || n > HIGHEST_POWER) {
            return NONE;
        }
        Rows.copy(NOTHING, risen);
        for (int i = 0; i < n; i++) {
            if (!rise(plane.maps[m])) {
                return NOT_SO;
            }
        }
        return keepMap(risen);
    }

    public int drop(int m) {
        if (!plane.hasMap(m)) {
            return NONE;
        }
        past.dropped(m, plane.maps[m]);
        plane.removeMap(m);
        return plane.mapCount;
    }

    // ---- points told and moved

    public int tell(int x, int y, int w) {
        if (!areNumbers(x, y, w)) {
            return NONE;
        }
        if (plane.pointCount == MOST_POINTS || !isSomething(x, y, w)) {
            return NOT_SO;
        }
        Rows.put(x, y, w, given);
        plane.addPoint(given);
        past.told();
        return plane.pointCount - 1;
    }

    public int moves(int m) {
        if (!plane.hasMap(m)) {
            return NONE;
        }
        for (int p = 0; p < plane.pointCount; p++) {
            Maps.apply(plane.maps[m], plane.points[p], moved[p]);
            if (!Rows.isNear(moved[p])) {
                return NOT_SO;
            }
        }
        past.moved(plane.points);
        for (int p = 0; p < plane.pointCount; p++) {
            Rows.copy(moved[p], plane.points[p]);
        }
        return plane.pointCount - plane.finitePoints();
    }

    public int undo() {
        if (past.count == 0) {
            return NONE;
        }
        past.undoLatest(plane);
        return past.count;
    }

    // ---- points and lines by a map

    public long image(int m, int x, int y, int w, int what) {
        if (!plane.hasMap(m) || !isTriple(x, y, w) || !isThird(what)) {
            return NO;
        }
        Rows.put(x, y, w, given);
        Maps.apply(plane.maps[m], given, result);
        return result[what];
    }

    public long before(int m, int x, int y, int w, int what) {
        if (!plane.hasMap(m) || !isTriple(x, y, w) || !isThird(what)) {
            return NO;
        }
        Maps.invert(plane.maps[m], work);
        if (Maps.isLarge(work)) {
            return NOT_THERE;
        }
        Rows.put(x, y, w, given);
        Maps.apply(work, given, result);
        return result[what];
    }

    public long line(int m, int a, int b, int c, int what) {
        if (!plane.hasMap(m) || !isTriple(a, b, c) || !isThird(what)) {
            return NO;
        }
        Maps.invert(plane.maps[m], work);
        if (Maps.isLarge(work)) {
            return NOT_THERE;
        }
        Rows.put(a, b, c, given);
        Maps.pullBack(work, given, result);
        return result[what];
    }

    public long horizon(int m, int what) {
        if (!plane.hasMap(m) || !isThird(what)) {
            return NO;
        }
        Maps.pullBack(plane.maps[m], FAR_LINE, result);
        return result[what];
    }

    public long vanishing(int m, int what) {
        if (!plane.hasMap(m) || !isThird(what)) {
            return NO;
        }
        // The inverse may be LARGE here: FAR_LINE only picks its last row, nothing grows.
        Maps.invert(plane.maps[m], work);
        Maps.pullBack(work, FAR_LINE, result);
        return result[what];
    }

    public int cut(int m, int p, int q) {
        if (!plane.hasMap(m) || !plane.hasPoint(p) || !plane.hasPoint(q)) {
            return NONE;
        }
        if (!Rows.isFinite(plane.points[p]) || !Rows.isFinite(plane.points[q])) {
            return NOT_SO;
        }
        return bit(Maps.cuts(plane.maps[m], plane.points[p], plane.points[q]));
    }

    public int cutSides(int m, int q) {
        if (!plane.hasMap(m) || !plane.hasQuad(q)) {
            return NONE;
        }
        long[][] corners = plane.quads[q].corners;
        int sides = 0;
        for (int k = 0; k < 4; k++) {
            if (Maps.cuts(plane.maps[m], corners[k], corners[(k + 1) & 3])) {
                sides |= 1 << k;
            }
        }
        return sides;
    }

    // ---- what a map is

    public int kind(int m) {
        return plane.hasMap(m) ? Maps.kindOf(plane.maps[m]) : NONE;
    }

    public int turn(int m) {
        if (!plane.hasMap(m)) {
            return 0;
        }
        long[] map = plane.maps[m];
        if (Rows.greatest(map) > LARGEST_TO_TURN) {
            return 2;
        }
        return Maps.determinant(map) > 0 ? 1 : -1;
    }

    public int order(int m) {
        if (!plane.hasMap(m)) {
            return NONE;
        }
        Rows.copy(NOTHING, risen);
        for (int n = 1; n <= HIGHEST_POWER; n++) {
            if (!rise(plane.maps[m])) {
                return NOT_SO;
            }
            if (Rows.alike(risen, NOTHING)) {
                return n;
            }
        }
        return NOT_SO;
    }

    public int same(int a, int b) {
        if (!plane.hasMap(a) || !plane.hasMap(b)) {
            return NONE;
        }
        return bit(Rows.alike(plane.maps[a], plane.maps[b]));
    }

    public int commute(int a, int b) {
        if (!plane.hasMap(a) || !plane.hasMap(b)) {
            return NONE;
        }
        return bit(doCommute(a, b));
    }

    public int undoes(int a, int b) {
        if (!plane.hasMap(a) || !plane.hasMap(b)) {
            return NONE;
        }
        return bit(areInverse(a, b));
    }

    // ---- points that are told, by a map

    public int stays(int m, int p) {
        if (!plane.hasMap(m) || !plane.hasPoint(p)) {
            return NONE;
        }
        return bit(isKept(plane.maps[m], plane.points[p]));
    }

    public int points(int m, int what) {
        if (!plane.hasMap(m) || !isThird(what)) {
            return NONE;
        }
        int count = 0;
        for (int p = 0; p < plane.pointCount; p++) {
            if (isOfSort(plane.maps[m], plane.points[p], what)) {
                count++;
            }
        }
        return count;
    }

    // ---- points and lines among themselves

    public long join(int p, int q, int what) {
        if (!plane.hasPoint(p) || !plane.hasPoint(q) || !isThird(what)) {
            return NO;
        }
        if (!Rows.through(plane.points[p], plane.points[q], result)) {
            return NOT_THERE;
        }
        return result[what];
    }

    public int inLine(int p, int q, int r) {
        if (!plane.hasPoint(p) || !plane.hasPoint(q) || !plane.hasPoint(r)) {
            return NONE;
        }
        return bit(areInLine(p, q, r));
    }

    public long meet(int p, int q, int r, int s, int what) {
        if (!arePoints(p, q, r, s) || !isThird(what)) {
            return NO;
        }
        boolean meeting = Rows.through(plane.points[p], plane.points[q], firstLine)
            && Rows.through(plane.points[r], plane.points[s], secondLine)
            && Rows.through(firstLine, secondLine, result);
        return meeting ? result[what] : NOT_THERE;
    }

    public long share(int p, int q, int r, int s, int part) {
        if (!arePoints(p, q, r, s) || !isPart(part)) {
            return NO;
        }
        // The third of these is for p and q alike, which are in line with all.
        if (hasThreeAlike(p, q, r, s) || !areInLine(p, q, r) || !areInLine(p, q, s) || !areInLine(q, r, s)) {
            return NOT_THERE;
        }
        int axis = axisOutside(p, q, r);
        long above = span(axis, p, r) * span(axis, q, s);
        long below = span(axis, q, r) * span(axis, p, s);
        return below == 0 ? 1 - part : Rows.lowest(above, below, part);
    }

    public long fourth(int p, int q, int r, int what) {
        if (!arePoints(p, q, r, r) || !isThird(what)) {
            return NO;
        }
        if (!areInLine(p, q, r) || areAlike(p, q) || areAlike(p, r) || areAlike(q, r)) {
            return NOT_THERE;
        }
        int axis = axisOutside(p, q, r);
        long timesP = span(axis, q, r);
        long timesQ = span(axis, p, r);
        for (int i = 0; i < 3; i++) {
            result[i] = timesP * plane.points[p][i] + timesQ * plane.points[q][i];
        }
        Rows.reduce(result);
        return result[what];
    }

    // ---- tracks

    public long track(int m, int p, int n, int what) {
        if (!plane.hasMap(m) || !plane.hasPoint(p) || n < 0 || n > LONGEST_TRACK || !isThird(what)) {
            return NO;
        }
        return follow(m, p, n) ? step[what] : NOT_THERE;
    }

    public int cycle(int m, int p) {
        if (!plane.hasMap(m) || !plane.hasPoint(p)) {
            return NONE;
        }
        Rows.copy(plane.points[p], step);
        for (int n = 1; n <= LONGEST_TRACK; n++) {
            if (!stepOn(m)) {
                return NOT_SO;
            }
            if (Rows.alike(step, plane.points[p])) {
                return n;
            }
        }
        return NOT_SO;
    }

    public int whole(int m, int n) {
        if (!plane.hasMap(m) || n < 0 || n > WIDEST_WHOLE) {
            return NONE;
        }
        int count = 0;
        for (int x = -n; x <= n; x++) {
            for (int y = -n; y <= n; y++) {
                Rows.put(x, y, 1, given);
                Maps.apply(plane.maps[m], given, result);
                if (result[2] == 1) {
                    count++;
                }
            }
        }
        return count;
    }

    // ---- quads

    public int inside(int q, int p) {
        if (!plane.hasQuad(q) || !plane.hasPoint(p)) {
            return NONE;
        }
        if (!Rows.isFinite(plane.points[p])) {
            return NOT_SO;
        }
        Quad quad = plane.quads[q];
        if (Quad.formOf(quad.leftTurns()) == CROSSED) {
            return CROSSED_QUAD;
        }
        if (quad.hasOnSide(plane.points[p])) {
            return 2;
        }
        return bit(quad.surrounds(plane.points[p]));
    }

    public int crossings(int q, int r) {
        if (!plane.hasQuad(q) || !plane.hasQuad(r)) {
            return NONE;
        }
        int count = 0;
        for (int k = 0; k < 4; k++) {
            for (int j = 0; j < 4; j++) {
                if (plane.quads[q].touches(k, plane.quads[r], j)) {
                    count++;
                }
            }
        }
        return count;
    }

    public long diagonal(int q, int k, int what) {
        if (!plane.hasQuad(q) || !isThird(k) || !isThird(what)) {
            return NO;
        }
        meetSides(q, k);
        return result[what];
    }

    public int parallel(int m, int q) {
        if (!plane.hasMap(m) || !plane.hasQuad(q)) {
            return NONE;
        }
        int sides = 0;
        for (int k = 0; k < 2; k++) {
            meetSides(q, k);
            if (Maps.height(plane.maps[m], result) == 0) {
                sides |= 1 << k;
            }
        }
        return sides;
    }

    public int shapeBy(int m, int q) {
        if (!plane.hasMap(m) || !plane.hasQuad(q)) {
            return NONE;
        }
        if (!keepsCorners(m, q)) {
            return NOT_SO;
        }
        return Quad.formOf(plane.quads[q].leftTurnsBy(plane.maps[m]));
    }

    public int symmetries(int q, int kind) {
        if (!plane.hasQuad(q) || !isKind(kind)) {
            return NONE;
        }
        int count = 0;
        for (int k = 0; k < ORDER_COUNT; k++) {
            maker.between(plane.quads[q], plane.quads[q], k, work);
            if (Maps.kindOf(work) <= kind) {
                count++;
            }
        }
        return count;
    }

    public int symmetry(int q, int k) {
        if (!plane.hasQuad(q) || k < 0 || k >= ORDER_COUNT) {
            return NONE;
        }
        maker.between(plane.quads[q], plane.quads[q], k, work);
        return keepMap(work);
    }

    // ---- maps that come of others

    public int word(int m, int k) {
        if (!plane.hasMap(m) || k < NONE) {
            return NONE;
        }
        int length = findWord(m);
        if (length == 0 || k >= length) {
            return NOT_SO;
        }
        return k == NONE ? length : found[k];
    }

    public int generated(int n) {
        if (n != 1 && n != 2) {
            return NONE;
        }
        if (n == 2) {
            products.fill(plane);
        }
        int all = plane.mapCount + (n == 2 ? products.count : 0);
        int unlike = 0;
        for (int i = 0; i < all; i++) {
            if (!stoodBefore(i)) {
                unlike++;
            }
        }
        return unlike;
    }

    public int leads(int p, int q, int n) {
        if (!plane.hasPoint(p) || !plane.hasPoint(q) || n < 1 || n > LONGEST_LEAD) {
            return NONE;
        }
        for (int m = 0; m < plane.mapCount; m++) {
            if (follow(m, p, n) && Rows.alike(step, plane.points[q])) {
                return m;
            }
        }
        return NOT_SO;
    }

    // ---- lines that come back, sides, lengths

    public long pull(int m, int a, int b, int c, int what) {
        if (!plane.hasMap(m) || !isTriple(a, b, c) || !isThird(what)) {
            return NO;
        }
        Rows.put(a, b, c, given);
        Maps.pullBack(plane.maps[m], given, result);
        return result[what];
    }

    public int keepsLine(int m, int a, int b, int c) {
        if (!plane.hasMap(m) || !isTriple(a, b, c)) {
            return NONE;
        }
        // A line is its own image just when it is the one that comes back from itself.
        Rows.put(a, b, c, given);
        Maps.pullBack(plane.maps[m], given, result);
        Rows.reduce(given);
        return bit(Rows.alike(given, result));
    }

    public long side(int q, int k, int what) {
        if (!plane.hasQuad(q) || !isCorner(k) || !isThird(what)) {
            return NO;
        }
        long[][] corners = plane.quads[q].corners;
        Rows.through(corners[k], corners[(k + 1) & 3], result);
        return result[what];
    }

    public int turnOf(int p, int q, int r) {
        if (isFar(p) || isFar(q) || isFar(r)) {
            return NOT_SO;
        }
        if (!arePoints(p, q, r, r)) {
            return NO_SUCH_TURN;
        }
        return Rows.sign(Rows.determinant(plane.points[p], plane.points[q], plane.points[r]));
    }

    public long gap(int p, int q, int part) {
        if (!plane.hasPoint(p) || !plane.hasPoint(q) || !isPart(part)) {
            return NO;
        }
        if (isFar(p) || isFar(q)) {
            return NOT_SO;
        }
        long[] from = plane.points[p];
        long[] to = plane.points[q];
        long across = from[0] * to[2] - to[0] * from[2];
        long up = from[1] * to[2] - to[1] * from[2];
        long unit = from[2] * to[2];
        return Rows.lowest(across * across + up * up, unit * unit, part);
    }

    public long middle(int p, int q, int what) {
        if (!plane.hasPoint(p) || !plane.hasPoint(q) || !isThird(what)) {
            return NO;
        }
        if (isFar(p) || isFar(q)) {
            return NOT_THERE;
        }
        long[] from = plane.points[p];
        long[] to = plane.points[q];
        long x = from[0] * to[2] + to[0] * from[2];
        long y = from[1] * to[2] + to[1] * from[2];
        Rows.put(x, y, 2 * from[2] * to[2], result);
        Rows.reduce(result);
        return result[what];
    }

    // ---- what a map is to others, to quads and points

    public int partner(int m) {
        if (!plane.hasMap(m)) {
            return NONE;
        }
        for (int other = 0; other < plane.mapCount; other++) {
            if (areInverse(m, other)) {
                return other;
            }
        }
        return NOT_SO;
    }

    public long cornerBy(int m, int q, int k, int what) {
        if (!plane.hasMap(m) || !plane.hasQuad(q) || !isCorner(k) || !isThird(what)) {
            return NO;
        }
        Maps.apply(plane.maps[m], plane.quads[q].corners[k], result);
        return result[what];
    }

    public long scale(int m, int part) {
        if (!plane.hasMap(m) || !isPart(part)) {
            return NO;
        }
        long[] map = plane.maps[m];
        if (Maps.kindOf(map) > ALIKE_KIND) {
            return NOT_SO;
        }
        return Rows.lowest(map[0] * map[0] + map[3] * map[3], map[8] * map[8], part);
    }

    public int likeness(int q, int r, int what) {
        if (!plane.hasQuad(q) || !plane.hasQuad(r) || !isPart(what)) {
            return NONE;
        }
        int least = ANY_KIND + 1;
        int first = 0;
        for (int k = 0; k < ORDER_COUNT; k++) {
            maker.between(plane.quads[q], plane.quads[r], k, work);
            int kind = Maps.kindOf(work);
            if (kind < least) {
                least = kind;
                first = k;
            }
        }
        return what == 0 ? least : first;
    }

    public int hits(int m, int q, int r) {
        if (!plane.hasMap(m) || !plane.hasQuad(q) || !plane.hasQuad(r)) {
            return NONE;
        }
        return cornersThatHit(m, q, r);
    }

    public int goesTo(int m, int q) {
        if (!plane.hasMap(m) || !plane.hasQuad(q)) {
            return NONE;
        }
        int count = 0;
        for (int r = 0; r < plane.quadCount; r++) {
            if (cornersThatHit(m, q, r) == 4) {
                count++;
            }
        }
        return count;
    }

    public long farthest(int m) {
        if (!plane.hasMap(m)) {
            return NO;
        }
        long most = 0;
        for (int p = 0; p < plane.pointCount; p++) {
            Maps.apply(plane.maps[m], plane.points[p], result);
            most = Math.max(most, Rows.greatest(result));
        }
        return most;
    }

    // ---- all maps together

    public int biggest(int what) {
        if (!isPart(what)) {
            return NONE;
        }
        int best = NOT_SO;
        long bestSize = 0;
        for (int m = 0; m < plane.mapCount; m++) {
            long size = Rows.greatest(plane.maps[m]);
            if (m == 0 || (what == 0 ? size > bestSize : size < bestSize)) {
                best = m;
                bestSize = size;
            }
        }
        return best;
    }

    public int kinds(int kind) {
        if (!isKind(kind)) {
            return NONE;
        }
        int count = 0;
        for (int m = 0; m < plane.mapCount; m++) {
            if (Maps.kindOf(plane.maps[m]) == kind) {
                count++;
            }
        }
        return count;
    }

    public int pairs(int what) {
        if (!isThird(what)) {
            return NONE;
        }
        int count = 0;
        for (int a = 0; a < plane.mapCount; a++) {
            for (int b = a + 1; b < plane.mapCount; b++) {
                if (isPairOf(a, b, what)) {
                    count++;
                }
            }
        }
        return count;
    }

    public int spell(int m, int i) {
        if (!plane.hasMap(m) || i < NONE) {
            return NONE;
        }
        spelled.setLength(0);
        for (int place = 0; place < 9; place++) {
            if (place > 0) {
                spelled.append(' ');
            }
            spelled.append((int) plane.maps[m][place]);
        }
        if (i == NONE) {
            return spelled.length();
        }
        return i < spelled.length() ? spelled.charAt(i) : NOT_SO;
    }

    public int kept(int m) {
        if (!plane.hasMap(m)) {
            return NONE;
        }
        int quads = 0;
        for (int q = 0; q < plane.quadCount; q++) {
            if (keepsCorners(m, q)) {
                quads |= 1 << q;
            }
        }
        return quads;
    }

    public int find(int from, int to) {
        if (!plane.hasQuad(from) || !plane.hasQuad(to)) {
            return NONE;
        }
        maker.between(plane.quads[from], plane.quads[to], 0, work);
        for (int m = 0; m < plane.mapCount; m++) {
            if (Rows.alike(plane.maps[m], work)) {
                return m;
            }
        }
        return NOT_SO;
    }

    public int size(int m) {
        return plane.hasMap(m) ? (int) Rows.greatest(plane.maps[m]) : NONE;
    }

    public int count(int what) {
        switch (what) {
            case 0: return plane.lineCount;
            case 1: return plane.quadCount;
            case 2: return plane.mapCount;
            case 3: return plane.pointCount;
            case 4: return plane.finitePoints();
            case 5: return past.count;
            case 6: return tape.length;
            default: return NONE;
        }
    }

    // ---- what calls may tell

    private static boolean isPart(int what) {
        return what == 0 || what == 1;
    }

    private static boolean isThird(int what) {
        return what >= 0 && what < 3;
    }

    private static boolean isCorner(int k) {
        return k >= 0 && k < 4;
    }

    private static boolean isKind(int kind) {
        return kind >= 0 && kind <= ANY_KIND;
    }

    private static boolean isNumber(int x) {
        return x >= -GREATEST_NUMBER && x <= GREATEST_NUMBER;
    }

    private static boolean areNumbers(int x, int y, int w) {
        return isNumber(x) && isNumber(y) && isNumber(w);
    }

    private static boolean isSomething(int x, int y, int w) {
        return x != 0 || y != 0 || w != 0;
    }

    /** Whether three numbers tell a POINT or a LINE. */
    private static boolean isTriple(int x, int y, int w) {
        return areNumbers(x, y, w) && isSomething(x, y, w);
    }

    private static int bit(boolean so) {
        return so ? 1 : 0;
    }

    private boolean arePoints(int p, int q, int r, int s) {
        return plane.hasPoint(p) && plane.hasPoint(q) && plane.hasPoint(r) && plane.hasPoint(s);
    }

    /** Whether there is such a POINT and it isn't FINITE. */
    private boolean isFar(int p) {
        return plane.hasPoint(p) && !Rows.isFinite(plane.points[p]);
    }

    // ---- maps

    private int keepMap(long[] map) {
        if (Maps.isLarge(map)) {
            return NOT_SO;
        }
        if (plane.mapCount == MOST_MAPS) {
            return NOT_MORE;
        }
        plane.addMap(map);
        past.made();
        return plane.mapCount - 1;
    }

    /** Makes risen the next POWER of a MAP; false if that is LARGE, and must not rise again. */
    private boolean rise(long[] map) {
        Maps.multiply(map, risen, work);
        Rows.copy(work, risen);
        return !Maps.isLarge(risen);
    }

    private boolean doCommute(int a, int b) {
        Maps.multiply(plane.maps[a], plane.maps[b], work);
        Maps.multiply(plane.maps[b], plane.maps[a], otherWork);
        return Rows.alike(work, otherWork);
    }

    private boolean areInverse(int a, int b) {
        Maps.multiply(plane.maps[a], plane.maps[b], work);
        return Rows.alike(work, NOTHING);
    }

    private boolean isPairOf(int a, int b, int what) {
        if (what == 0) {
            return doCommute(a, b);
        }
        return what == 1 ? areInverse(a, b) : Rows.alike(plane.maps[a], plane.maps[b]);
    }

    // ---- points

    private boolean areAlike(int p, int q) {
        return Rows.alike(plane.points[p], plane.points[q]);
    }

    private boolean areInLine(int p, int q, int r) {
        return Rows.determinant(plane.points[p], plane.points[q], plane.points[r]) == 0;
    }

    private boolean hasThreeAlike(int p, int q, int r, int s) {
        if (areAlike(p, q)) {
            return areAlike(p, r) || areAlike(p, s);
        }
        return areAlike(r, s) && (areAlike(p, r) || areAlike(q, r));
    }

    /**
     * The axis whose POINT lies outside of the LINE through three POINTS, two of them unlike. With it
     * a determinant is of two numbers each only, and two of them multiplied stay within a long.
     */
    private int axisOutside(int p, int q, int r) {
        if (!Rows.through(plane.points[p], plane.points[q], firstLine)) {
            Rows.through(plane.points[p], plane.points[r], firstLine);
        }
        for (int axis = 0; axis < 2; axis++) {
            if (firstLine[axis] != 0) {
                return axis;
            }
        }
        return 2;
    }

    /** The determinant of the POINT of an axis (0 .. 2) and of two POINTS. */
    private long span(int axis, int p, int q) {
        int next = axis == 2 ? 0 : axis + 1;
        int last = axis == 0 ? 2 : axis - 1;
        long[] first = plane.points[p];
        long[] second = plane.points[q];
        return first[next] * second[last] - first[last] * second[next];
    }

    private boolean isKept(long[] map, long[] point) {
        Maps.apply(map, point, result);
        return Rows.alike(result, point);
    }

    private boolean isOfSort(long[] map, long[] point, int what) {
        if (what == 0) {
            return isKept(map, point);
        }
        boolean comesFinite = Maps.height(map, point) != 0;
        return what == 1 ? !comesFinite : comesFinite && !Rows.isFinite(point);
    }

    /** Brings step to the n-th of a POINT's TRACK; false if that doesn't go so far. */
    private boolean follow(int m, int p, int n) {
        Rows.copy(plane.points[p], step);
        for (int i = 0; i < n; i++) {
            if (!stepOn(m)) {
                return false;
            }
        }
        return true;
    }

    private boolean stepOn(int m) {
        Maps.apply(plane.maps[m], step, result);
        Rows.copy(result, step);
        return Rows.isNear(step);
    }

    // ---- quads and maps

    private void meetSides(int q, int k) {
        long[][] corners = plane.quads[q].corners;
        Rows.through(corners[DIAGONALS[4 * k]], corners[DIAGONALS[4 * k + 1]], firstLine);
        Rows.through(corners[DIAGONALS[4 * k + 2]], corners[DIAGONALS[4 * k + 3]], secondLine);
        Rows.through(firstLine, secondLine, result);
    }

    private boolean keepsCorners(int m, int q) {
        for (int k = 0; k < 4; k++) {
            if (Maps.height(plane.maps[m], plane.quads[q].corners[k]) == 0) {
                return false;
            }
        }
        return true;
    }

    private int cornersThatHit(int m, int q, int r) {
        int count = 0;
        for (int k = 0; k < 4; k++) {
            Maps.apply(plane.maps[m], plane.quads[q].corners[k], result);
            if (plane.quads[r].hasCorner(result)) {
                count++;
            }
        }
        return count;
    }

    // ---- words and generated maps

    /** Puts the row of MAPS that word() asks for into found; its length, 0 if there is none. */
    private int findWord(int m) {
        if (findOne(m)) {
            return 1;
        }
        products.fill(plane);
        if (findTwo(m)) {
            return 2;
        }
        return findThree(m) ? 3 : 0;
    }

    private boolean findOne(int m) {
        for (int a = 0; a < plane.mapCount; a++) {
            if (a != m && Rows.alike(plane.maps[a], plane.maps[m])) {
                found[0] = a;
                return true;
            }
        }
        return false;
    }

    private boolean findTwo(int m) {
        for (int a = 0; a < plane.mapCount; a++) {
            for (int b = 0; b < plane.mapCount; b++) {
                if (a != m && b != m && Rows.alike(products.of(a, b), plane.maps[m])) {
                    found[0] = a;
                    found[1] = b;
                    return true;
                }
            }
        }
        return false;
    }

    private boolean findThree(int m) {
        for (int a = 0; a < plane.mapCount; a++) {
            for (int b = 0; b < plane.mapCount; b++) {
                for (int c = 0; c < plane.mapCount; c++) {
                    if (a != m && b != m && c != m && comesTo(a, products.of(b, c), plane.maps[m])) {
                        found[0] = a;
                        found[1] = b;
                        found[2] = c;
                        return true;
                    }
                }
            }
        }
        return false;
    }

    private boolean comesTo(int a, long[] others, long[] map) {
        if (Maps.isLarge(others)) {
            return false;
        }
        Maps.multiplyRaw(plane.maps[a], others, work);
        return Rows.isMultiple(work, map);
    }

    /** The i-th of all MAPS and, behind them, of the products. */
    private long[] generatedMap(int i) {
        return i < plane.mapCount ? plane.maps[i] : products.rows[i - plane.mapCount];
    }

    private boolean stoodBefore(int i) {
        for (int j = 0; j < i; j++) {
            if (Rows.alike(generatedMap(j), generatedMap(i))) {
                return true;
            }
        }
        return false;
    }

    /** Rows of numbers of which only the shares count: POINTS and LINES of three, MAPS of nine. */
    private static final class Rows {
        /** Far above the steps that two longs can need (some ninety). */
        private static final int MOST_STEPS = 1000;

        static long divisor(long a, long b) {
            long most = Math.abs(a);
            long rest = Math.abs(b);
            for (int i = 0; i < MOST_STEPS && rest != 0; i++) {
                long next = most % rest;
                most = rest;
                rest = next;
            }
            return most;
        }

        static int sign(long x) {
            return x > 0 ? 1 : x < 0 ? -1 : 0;
        }

        /** The place of the last number that isn't 0; 0 if all are. */
        static int lastPlace(long[] row) {
            for (int i = row.length - 1; i > 0; i--) {
                if (row[i] != 0) {
                    return i;
                }
            }
            return 0;
        }

        static void reduce(long[] row) {
            long by = 0;
            for (int i = 0; i < row.length && by != 1; i++) {
                by = divisor(by, row[i]);
            }
            if (row[lastPlace(row)] < 0) {
                by = -by;
            }
            if (by == 0 || by == 1) {
                return;
            }
            for (int i = 0; i < row.length; i++) {
                row[i] /= by;
            }
        }

        /** A part of a fraction in lowest terms: 0 above, 1 below the line. */
        static long lowest(long above, long below, int part) {
            long by = divisor(above, below);
            if (by == 0) {
                return 0;
            }
            return (part == 0 ? above : below) / (below < 0 ? -by : by);
        }

        static void put(long x, long y, long w, long[] row) {
            row[0] = x;
            row[1] = y;
            row[2] = w;
        }

        static void copy(long[] from, long[] to) {
            System.arraycopy(from, 0, to, 0, Math.min(from.length, to.length));
        }

        static boolean alike(long[] a, long[] b) {
            for (int i = 0; i < a.length && i < b.length; i++) {
                if (a[i] != b[i]) {
                    return false;
                }
            }
            return true;
        }

        /**
         * Whether a row has the shares of a REDUCED one: it is then a whole number times that, since
         * the numbers of the REDUCED one have no divisor in common. Saves the search for a divisor.
         */
        static boolean isMultiple(long[] row, long[] reduced) {
            int last = lastPlace(reduced);
            if (reduced[last] == 0) {
                return false;
            }
            long times = row[last] / reduced[last];
            if (times == 0) {
                return false;
            }
            for (int i = 0; i < row.length && i < reduced.length; i++) {
                if (row[i] % times != 0 || row[i] / times != reduced[i]) {
                    return false;
                }
            }
            return true;
        }

        static long greatest(long[] row) {
            long most = 0;
            for (int i = 0; i < row.length; i++) {
                most = Math.max(most, Math.abs(row[i]));
            }
            return most;
        }

        static boolean isNear(long[] point) {
            return greatest(point) <= GREATEST_NUMBER;
        }

        static boolean isFinite(long[] point) {
            return point[2] != 0;
        }

        /**
         * The LINE through two POINTS, or the POINT of two LINES, which is the same reckoning; false
         * if the two are alike.
         */
        static boolean through(long[] a, long[] b, long[] out) {
            out[0] = a[1] * b[2] - a[2] * b[1];
            out[1] = a[2] * b[0] - a[0] * b[2];
            out[2] = a[0] * b[1] - a[1] * b[0];
            reduce(out);
            return out[0] != 0 || out[1] != 0 || out[2] != 0;
        }

        static long determinant(long[] a, long[] b, long[] c) {
            return a[0] * (b[1] * c[2] - b[2] * c[1])
                + a[1] * (b[2] * c[0] - b[0] * c[2])
                + a[2] * (b[0] * c[1] - b[1] * c[0]);
        }
    }

    /** MAPS as rows of nine. None of what comes of MAPS that aren't LARGE leaves a long. */
    private static final class Maps {
        static boolean isLarge(long[] map) {
            return Rows.greatest(map) > LARGEST;
        }

        /** What becomes of a POINT's w. */
        static long height(long[] map, long[] point) {
            return map[6] * point[0] + map[7] * point[1] + map[8] * point[2];
        }

        static void apply(long[] map, long[] point, long[] out) {
            for (int row = 0; row < 3; row++) {
                out[row] = map[3 * row] * point[0] + map[3 * row + 1] * point[1]
                    + map[3 * row + 2] * point[2];
            }
            Rows.reduce(out);
        }

        /** The LINE whose IMAGE is a LINE. */
        static void pullBack(long[] map, long[] line, long[] out) {
            for (int place = 0; place < 3; place++) {
                out[place] = map[place] * line[0] + map[3 + place] * line[1] + map[6 + place] * line[2];
            }
            Rows.reduce(out);
        }

        static boolean cuts(long[] map, long[] p, long[] q) {
            return Rows.sign(height(map, p)) * Rows.sign(height(map, q)) <= 0;
        }

        static void multiplyRaw(long[] a, long[] b, long[] out) {
            for (int row = 0; row < 9; row += 3) {
                for (int place = 0; place < 3; place++) {
                    out[row + place] = a[row] * b[place] + a[row + 1] * b[3 + place]
                        + a[row + 2] * b[6 + place];
                }
            }
        }

        static void multiply(long[] a, long[] b, long[] out) {
            multiplyRaw(a, b, out);
            Rows.reduce(out);
        }

        static void invert(long[] m, long[] out) {
            out[0] = m[4] * m[8] - m[5] * m[7];
            out[1] = m[2] * m[7] - m[1] * m[8];
            out[2] = m[1] * m[5] - m[2] * m[4];
            out[3] = m[5] * m[6] - m[3] * m[8];
            out[4] = m[0] * m[8] - m[2] * m[6];
            out[5] = m[2] * m[3] - m[0] * m[5];
            out[6] = m[3] * m[7] - m[4] * m[6];
            out[7] = m[1] * m[6] - m[0] * m[7];
            out[8] = m[0] * m[4] - m[1] * m[3];
            Rows.reduce(out);
        }

        /** Only of MAPS whose numbers are within LARGEST_TO_TURN. */
        static long determinant(long[] m) {
            return m[0] * (m[4] * m[8] - m[5] * m[7])
                + m[1] * (m[5] * m[6] - m[3] * m[8])
                + m[2] * (m[3] * m[7] - m[4] * m[6]);
        }

        /**
         * KIND of a REDUCED MAP. It may be LARGE if it is one between QUADS: such a one is of kind 5,
         * and told from the lower ones before a number is squared.
         */
        static int kindOf(long[] m) {
            if (m[6] != 0 || m[7] != 0) {
                return ANY_KIND;
            }
            long length = m[0] * m[0] + m[3] * m[3];
            if (m[0] * m[1] + m[3] * m[4] != 0 || m[1] * m[1] + m[4] * m[4] != length) {
                return FINITE_KIND;
            }
            if (length != m[8] * m[8]) {
                return ALIKE_KIND;
            }
            if (m[1] != 0 || m[3] != 0 || m[0] != m[8] || m[4] != m[8]) {
                return 2;
            }
            return m[2] != 0 || m[5] != 0 ? 1 : 0;
        }
    }

    /** Four CORNERS, each x, y, 1, no three of them in line. */
    private static final class Quad {
        private final long[][] corners = new long[4][3];

        /** How the way around turns at a CORNER: twice the area of it and its neighbours. */
        long turnAt(int k) {
            return Rows.determinant(corners[(k + 3) & 3], corners[k & 3], corners[(k + 1) & 3]);
        }

        boolean isFlat() {
            return turnAt(0) == 0 || turnAt(1) == 0 || turnAt(2) == 0 || turnAt(3) == 0;
        }

        /** The CORNERS at which the way around turns left, as bits. */
        int leftTurns() {
            int left = 0;
            for (int k = 0; k < 4; k++) {
                if (turnAt(k) > 0) {
                    left |= 1 << k;
                }
            }
            return left;
        }

        /**
         * The same of the IMAGES, which must be FINITE. A MAP turns three POINTS as its determinant
         * and their three heights say; the determinant is left out: it turns all four alike, and the
         * form doesn't depend on that.
         */
        int leftTurnsBy(long[] map) {
            int left = 0;
            for (int k = 0; k < 4; k++) {
                int turn = Rows.sign(turnAt(k));
                for (int j = k + 3; j <= k + 5; j++) {
                    turn *= Rows.sign(Maps.height(map, corners[j & 3]));
                }
                if (turn > 0) {
                    left |= 1 << k;
                }
            }
            return left;
        }

        /** All turns alike, one unlike the three others, two and two: no other QUADS there are. */
        static int formOf(int leftTurns) {
            int left = Integer.bitCount(leftTurns);
            if (left == 2) {
                return CROSSED;
            }
            return left == 0 || left == 4 ? CONVEX : DENTED;
        }

        long doubledArea() {
            long sum = 0;
            for (int k = 0; k < 4; k++) {
                long[] from = corners[k];
                long[] to = corners[(k + 1) & 3];
                sum += from[0] * to[1] - from[1] * to[0];
            }
            return sum;
        }

        boolean hasCorner(long[] point) {
            for (int k = 0; k < 4; k++) {
                if (Rows.alike(corners[k], point)) {
                    return true;
                }
            }
            return false;
        }

        boolean hasOnSide(long[] point) {
            for (int k = 0; k < 4; k++) {
                long[] from = corners[k];
                long[] to = corners[(k + 1) & 3];
                if (Rows.determinant(from, to, point) == 0
                    && isAmid(from[0], to[0], point[0], point[2])
                    && isAmid(from[1], to[1], point[1], point[2])) {
                    return true;
                }
            }
            return false;
        }

        private static boolean isAmid(long a, long b, long above, long below) {
            return Math.min(a, b) * below <= above && above <= Math.max(a, b) * below;
        }

        /** Whether a ray from a FINITE POINT on no side, to the right, meets an odd count of sides. */
        boolean surrounds(long[] point) {
            boolean odd = false;
            for (int k = 0; k < 4; k++) {
                long[] from = corners[k];
                long[] to = corners[(k + 1) & 3];
                boolean starts = from[1] * point[2] > point[1];
                boolean ends = to[1] * point[2] > point[1];
                if (starts != ends && (Rows.determinant(from, to, point) > 0) == ends) {
                    odd = !odd;
                }
            }
            return odd;
        }

        /** Whether a side has a place in common with a side of a QUAD. */
        boolean touches(int k, Quad other, int j) {
            long[] a = corners[k & 3];
            long[] b = corners[(k + 1) & 3];
            long[] c = other.corners[j & 3];
            long[] d = other.corners[(j + 1) & 3];
            int forC = Rows.sign(Rows.determinant(a, b, c));
            int forD = Rows.sign(Rows.determinant(a, b, d));
            if (forC == 0 && forD == 0) {
                return overlaps(a[0], b[0], c[0], d[0]) && overlaps(a[1], b[1], c[1], d[1]);
            }
            int forA = Rows.sign(Rows.determinant(c, d, a));
            int forB = Rows.sign(Rows.determinant(c, d, b));
            return forC * forD <= 0 && forA * forB <= 0;
        }

        private static boolean overlaps(long a, long b, long c, long d) {
            return Math.max(Math.min(a, b), Math.min(c, d)) <= Math.min(Math.max(a, b), Math.max(c, d));
        }

        /**
         * The MAP by which the POINTS 1 0 0, 0 1 0, 0 0 1 and 1 1 1 have the CORNERS, in an ORDER, as
         * their IMAGES.
         */
        void putFrame(int order, long[] out) {
            long[] a = corners[ORDERS[4 * order]];
            long[] b = corners[ORDERS[4 * order + 1]];
            long[] c = corners[ORDERS[4 * order + 2]];
            long[] d = corners[ORDERS[4 * order + 3]];
            long timesA = Rows.determinant(d, b, c);
            long timesB = Rows.determinant(a, d, c);
            long timesC = Rows.determinant(a, b, d);
            for (int row = 0; row < 3; row++) {
                out[3 * row] = timesA * a[row];
                out[3 * row + 1] = timesB * b[row];
                out[3 * row + 2] = timesC * c[row];
            }
        }
    }

    /** Makes MAPS from QUADS, in rows of its own. */
    private static final class Maker {
        private final long[] frame = new long[9];
        private final long[] back = new long[9];
        private final Quad square = new Quad();

        /** The MAP by which each CORNER k goes to the CORNER that is the ORDER's k-th. */
        void between(Quad from, Quad to, int order, long[] out) {
            from.putFrame(0, frame);
            Maps.invert(frame, back);
            to.putFrame(order, frame);
            Maps.multiply(frame, back, out);
        }

        void toSquare(Quad from, int n, long[] out) {
            Rows.put(0, 0, 1, square.corners[0]);
            Rows.put(n, 0, 1, square.corners[1]);
            Rows.put(n, n, 1, square.corners[2]);
            Rows.put(0, n, 1, square.corners[3]);
            between(from, square, 0, out);
        }
    }

    /** The PRODUCTS of all pairs of MAPS. */
    private static final class Pairs {
        private final long[][] rows = new long[MOST_MAPS * MOST_MAPS][9];
        private int width;
        private int count;

        void fill(Plane plane) {
            width = plane.mapCount;
            count = width * width;
            for (int a = 0; a < width; a++) {
                for (int b = 0; b < width; b++) {
                    Maps.multiply(plane.maps[a], plane.maps[b], rows[width * a + b]);
                }
            }
        }

        long[] of(int a, int b) {
            return rows[width * a + b];
        }
    }

    /** What a TEXT has told and what calls have made of it. */
    private static final class Plane {
        private final Quad[] quads = new Quad[MOST_QUADS];
        private final long[][] maps = new long[MOST_MAPS][9];
        private final long[][] points = new long[MOST_POINTS][3];
        private int lineCount;
        private int quadCount;
        private int mapCount;
        private int pointCount;

        Plane() {
            for (int q = 0; q < MOST_QUADS; q++) {
                quads[q] = new Quad();
            }
        }

        void clear() {
            lineCount = 0;
            quadCount = 0;
            mapCount = 0;
            pointCount = 0;
        }

        boolean hasQuad(int q) {
            return q >= 0 && q < quadCount;
        }

        boolean hasMap(int m) {
            return m >= 0 && m < mapCount;
        }

        boolean hasPoint(int p) {
            return p >= 0 && p < pointCount;
        }

        void addMap(long[] map) {
            if (mapCount < MOST_MAPS) {
                Rows.copy(map, maps[mapCount]);
                mapCount++;
            }
        }

        void removeMap(int m) {
            if (hasMap(m)) {
                for (int i = m; i < mapCount - 1; i++) {
                    Rows.copy(maps[i + 1], maps[i]);
                }
                mapCount--;
            }
        }

        /** A MAP that was dropped comes back to its place. */
        void returnMap(int m, long[] map) {
            if (m >= 0 && m <= mapCount && mapCount < MOST_MAPS) {
                for (int i = mapCount; i > m; i--) {
                    Rows.copy(maps[i - 1], maps[i]);
                }
                Rows.copy(map, maps[m]);
                mapCount++;
            }
        }

        void addPoint(long[] point) {
            if (pointCount < MOST_POINTS) {
                Rows.copy(point, points[pointCount]);
                Rows.reduce(points[pointCount]);
                pointCount++;
            }
        }

        int finitePoints() {
            int finite = 0;
            for (int p = 0; p < pointCount; p++) {
                if (Rows.isFinite(points[p])) {
                    finite++;
                }
            }
            return finite;
        }
    }

    /** What can be undone: a ring, in which the latest takes the place of the eldest. */
    private static final class Past {
        private static final int MADE = 0;
        private static final int DROPPED = 1;
        private static final int TOLD = 2;
        private static final int MOVED = 3;

        private final int[] deeds = new int[MOST_DEEDS];
        private final int[] numbers = new int[MOST_DEEDS];
        private final long[][] rows = new long[MOST_DEEDS][3 * MOST_POINTS];
        private int eldest;
        private int count;

        void forget() {
            count = 0;
        }

        void made() {
            deeds[nextPlace()] = MADE;
        }

        void told() {
            deeds[nextPlace()] = TOLD;
        }

        void dropped(int m, long[] map) {
            int place = nextPlace();
            deeds[place] = DROPPED;
            numbers[place] = m;
            Rows.copy(map, rows[place]);
        }

        void moved(long[][] points) {
            int place = nextPlace();
            deeds[place] = MOVED;
            for (int p = 0; p < MOST_POINTS; p++) {
                System.arraycopy(points[p], 0, rows[place], 3 * p, 3);
            }
        }

        private int nextPlace() {
            if (count == MOST_DEEDS) {
                eldest = (eldest + 1) % MOST_DEEDS;
            } else {
                count++;
            }
            return (eldest + count - 1) % MOST_DEEDS;
        }

        void undoLatest(Plane plane) {
            if (count == 0) {
                return;
            }
            count--;
            int place = (eldest + count) % MOST_DEEDS;
            switch (deeds[place]) {
                case MADE:
                    plane.removeMap(plane.mapCount - 1);
                    break;
                case DROPPED:
                    plane.returnMap(numbers[place], rows[place]);
                    break;
                case TOLD:
                    plane.pointCount--;
                    break;
                default:
                    for (int p = 0; p < MOST_POINTS; p++) {
                        System.arraycopy(rows[place], 3 * p, plane.points[p], 0, 3);
                    }
                    break;
            }
        }
    }

    /** The bytes that are fed, each 0 .. 255. */
    private static final class Tape {
        private final int[] bytes = new int[MOST_BYTES];
        private int length;

        boolean hasRoomFor(int more) {
            return length + more <= MOST_BYTES;
        }

        void put(int four) {
            for (int shift = 24; shift >= 0 && length < MOST_BYTES; shift -= 8) {
                bytes[length] = (four >>> shift) & 255;
                length++;
            }
        }
    }

    /** Reads a TEXT, token by token, up to its first FAULT. */
    private static final class Reader {
        private static final int END = 0;
        private static final int STOP = 1;
        private static final int WORD = 2;
        private static final int DIGITS = 3;
        private static final int MINUS = 4;
        private static final int OTHER = 5;

        private static final int CANNOT_STAND = 1;
        private static final int TOO_MUCH = 2;
        private static final int TOLD_ALREADY = 3;
        private static final int NOT_GOOD = 4;

        // Words are held as numbers to the base 27, a as 1: six letters stay within an int.
        private static final int LONGEST_WORD = 6;
        private static final int QUAD_WORD = ((17 * 27 + 21) * 27 + 1) * 27 + 4;
        private static final int MAP_WORD = (13 * 27 + 1) * 27 + 16;
        private static final int POINT_WORD = (((16 * 27 + 15) * 27 + 9) * 27 + 14) * 27 + 20;
        /** Beyond what any number may be: longer digits stop here. */
        private static final int BEYOND = 100000;

        private final Tape tape;
        private final Maker maker;
        private final int[] quadNames = new int[MOST_QUADS];
        private final int[] mapNames = new int[MOST_MAPS_OF_A_TEXT];
        private final long[] row = new long[3];
        private final long[] madeMap = new long[9];
        private Plane plane;
        private int end;
        private int at;
        private int token;
        private int tokenPlace;
        private int value;
        private int fault;
        private int faultPlace = NONE;

        Reader(Tape tape, Maker maker, Plane plane) {
            this.tape = tape;
            this.maker = maker;
            this.plane = plane;
        }

        /** Reads the first n bytes of the tape into an emptied plane; false with a FAULT. */
        boolean read(int n, Plane target) {
            plane = target;
            plane.clear();
            end = Math.min(n, tape.length);
            at = 0;
            fault = 0;
            faultPlace = NONE;
            next();
            boolean good = true;
            for (int line = 0; line < MOST_BYTES && good && token != END; line++) {
                if (isWord(QUAD_WORD)) {
                    good = readQuad();
                } else if (isWord(MAP_WORD)) {
                    good = readMap();
                } else if (isWord(POINT_WORD)) {
                    good = readPoint();
                } else {
                    good = refuse(CANNOT_STAND);
                }
                plane.lineCount++;
            }
            return good;
        }

        private boolean readQuad() {
            int q = plane.quadCount;
            if (q == MOST_QUADS) {
                return refuse(TOO_MUCH);
            }
            next();
            if (!readName(quadNames, q)) {
                return false;
            }
            Quad quad = plane.quads[q];
            for (int k = 0; k < 4; k++) {
                if (!readNumbers(2, FARTHEST_CORNER)) {
                    return false;
                }
                Rows.put(row[0], row[1], 1, quad.corners[k]);
            }
            if (token != STOP) {
                return refuse(CANNOT_STAND);
            }
            if (quad.isFlat()) {
                return refuse(NOT_GOOD);
            }
            plane.quadCount++;
            next();
            return true;
        }

        private boolean readMap() {
            if (plane.mapCount == MOST_MAPS_OF_A_TEXT) {
                return refuse(TOO_MUCH);
            }
            next();
            if (!readName(mapNames, plane.mapCount)) {
                return false;
            }
            int from = readToldQuad();
            int to = from == NONE ? NONE : readToldQuad();
            if (to == NONE) {
                return false;
            }
            if (token != STOP) {
                return refuse(CANNOT_STAND);
            }
            maker.between(plane.quads[from], plane.quads[to], 0, madeMap);
            if (Maps.isLarge(madeMap)) {
                return refuse(NOT_GOOD);
            }
            plane.addMap(madeMap);
            next();
            return true;
        }

        private boolean readPoint() {
            if (plane.pointCount == MOST_POINTS) {
                return refuse(TOO_MUCH);
            }
            next();
            if (!readNumbers(3, GREATEST_NUMBER)) {
                return false;
            }
            if (token != STOP) {
                return refuse(CANNOT_STAND);
            }
            if (Rows.greatest(row) == 0) {
                return refuse(NOT_GOOD);
            }
            plane.addPoint(row);
            next();
            return true;
        }

        /** A NAME unlike the first few of a row, behind which it is kept. */
        private boolean readName(int[] names, int count) {
            if (!isName()) {
                return refuse(CANNOT_STAND);
            }
            if (placeAmong(names, count) != NONE) {
                return refuse(TOLD_ALREADY);
            }
            if (count < names.length) {
                names[count] = value;
            }
            next();
            return true;
        }

        /** The number of a QUAD that is told ahead; NONE with a FAULT. */
        private int readToldQuad() {
            int q = isName() ? placeAmong(quadNames, plane.quadCount) : NONE;
            if (q == NONE) {
                refuse(CANNOT_STAND);
            } else {
                next();
            }
            return q;
        }

        private int placeAmong(int[] names, int count) {
            for (int i = 0; i < count && i < names.length; i++) {
                if (names[i] == value) {
                    return i;
                }
            }
            return NONE;
        }

        /** Reads up to three numbers into row. */
        private boolean readNumbers(int count, int most) {
            for (int i = 0; i < count && i < row.length; i++) {
                int place = tokenPlace;
                boolean below = token == MINUS;
                if (below) {
                    next();
                }
                if (token != DIGITS) {
                    return refuse(CANNOT_STAND);
                }
                if (value > most) {
                    return refuseAt(TOO_MUCH, place);
                }
                row[i] = below ? -value : value;
                next();
            }
            return true;
        }

        private boolean refuse(int what) {
            return refuseAt(what, tokenPlace);
        }

        private boolean refuseAt(int what, int place) {
            fault = what;
            faultPlace = place;
            return false;
        }

        private boolean isWord(int word) {
            return token == WORD && value == word;
        }

        private boolean isName() {
            return token == WORD && value != QUAD_WORD && value != MAP_WORD && value != POINT_WORD;
        }

        private void next() {
            while (at < end && isBlank(tape.bytes[at])) {
                at++;
            }
            tokenPlace = at;
            value = 0;
            if (at >= end) {
                token = END;
            } else if (isLetter(tape.bytes[at])) {
                nextWord();
            } else if (isDigit(tape.bytes[at])) {
                nextDigits();
            } else {
                nextSign(tape.bytes[at]);
            }
        }

        private void nextWord() {
            int letters = 0;
            while (at < end && isLetter(tape.bytes[at])) {
                if (letters < LONGEST_WORD) {
                    value = 27 * value + tape.bytes[at] - 'a' + 1;
                }
                letters++;
                at++;
            }
            token = letters > LONGEST_WORD ? OTHER : WORD;
        }

        private void nextDigits() {
            while (at < end && isDigit(tape.bytes[at])) {
                value = Math.min(BEYOND, 10 * value + tape.bytes[at] - '0');
                at++;
            }
            token = DIGITS;
        }

        private void nextSign(int sign) {
            at++;
            if (sign == ';') {
                token = STOP;
            } else {
                token = sign == '-' ? MINUS : OTHER;
            }
        }

        private static boolean isBlank(int sign) {
            return sign == 10 || sign == 32;
        }

        private static boolean isLetter(int sign) {
            return sign >= 'a' && sign <= 'z';
        }

        private static boolean isDigit(int sign) {
            return sign >= '0' && sign <= '9';
        }
    }
}
