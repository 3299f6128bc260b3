import java.util.Arrays;

/**
 * Polygons with corners at grid points. The document ../shared/DOC.md says what each call answers; the words written
 * there in capitals (POINT, CORNER, SIDE, CUT, PIECE ..) are used here in the same sense.
 */
public final class GridPolygons {
    public static final int BAD = -1, NOT = -2, FULL = -3, SPENT = -5, NONE = -9;
    public static final int NO = -1000000;

    private static final int SHAPES = 8;
    private static final int MOST_CORNERS = 24;
    /** POINTS have coordinates from -GRID to GRID. */
    private static final int GRID = 40;
    private static final int SPAN = 2 * GRID + 1;
    /** Sums of two POINTS, and NORMALS of SIDES, reach twice as far as POINTS. */
    private static final int REACH = 2 * GRID;
    private static final int COLUMNS = 2 * REACH + 1;
    private static final int MOST_TIMES = 1000;
    private static final int MOST_WAY = 100;
    private static final int MOST_CUT_POINTS = 12;
    private static final int MOST_CUTS = 1500;
    private static final int MOST_LIFTED = 40;
    private static final int MOST_HEIGHT = 1000;

    private final Shape[] shapes;
    private final Hull hull;
    private final LeastWidth narrowest;
    private final Sail sail;
    private final Choices choices;
    private final Cuts cutting;
    private final Coarse coarse;
    private int stamps;

    public GridPolygons() {
        shapes = new Shape[SHAPES];
        for (int i = 0; i < SHAPES; i++) {
            shapes[i] = new Shape();
        }
        hull = new Hull();
        narrowest = new LeastWidth();
        sail = new Sail();
        choices = new Choices();
        cutting = new Cuts();
        coarse = new Coarse();
    }

    // ---- shapes

    public int clear(int shape) {
        Shape s = shapeAt(shape);
        if (s == null) {
            return BAD;
        }
        int had = s.ring.count;
        hull.begin();
        hull.close();
        remake(s);
        return had;
    }

    public int add(int shape, int x, int y) {
        Shape s = shapeAt(shape);
        if (s == null || !onGrid(x) || !onGrid(y)) {
            return BAD;
        }
        hull.begin();
        hull.takeRing(s.ring);
        hull.take(x, y);
        hull.close();
        return remakeIfFits(s);
    }

    public int corners(int shape) {
        Shape s = shapeAt(shape);
        return s == null ? BAD : s.ring.count;
    }

    public int corner(int shape, int i, int what) {
        Shape s = shapeAt(shape);
        if (s == null || i < 0 || i >= s.ring.count || what < 0 || what > 1) {
            return NO;
        }
        return what == 0 ? s.ring.x(i) : s.ring.y(i);
    }

    public int points(int shape, int what) {
        Shape s = shapeAt(shape);
        if (s == null) {
            return BAD;
        }
        switch (what) {
            case 0: return s.ring.area();
            case 1: return s.ring.onEdge();
            case 2: return s.ring.inside();
            case 3: return s.ring.all();
            default: return BAD;
        }
    }

    public long times(int shape, int n, int what) {
        Shape s = shapeAt(shape);
        if (s == null || n < 0 || n > MOST_TIMES || what < 0 || what > 1) {
            return BAD;
        }
        if (what == 0) {
            return s.ring.allTimes(n);
        }
        return s.ring.isPolygon() ? s.ring.insideTimes(n) : NOT;
    }

    public int where(int shape, int x, int y) {
        Shape s = shapeAt(shape);
        if (s == null || !onGrid(x) || !onGrid(y)) {
            return BAD;
        }
        return s.ring.standing(x, y);
    }

    public int point(int shape, int i, int what) {
        Shape s = shapeAt(shape);
        if (s == null || i < 0 || what < 0 || what > 1) {
            return NO;
        }
        return s.ring.coordinate(i, what);
    }

    public int width(int shape, int a, int b) {
        Shape s = shapeAt(shape);
        if (s == null || !isWay(a, b)) {
            return BAD;
        }
        return s.ring.count == 0 ? NOT : s.ring.across(a, b);
    }

    public int least(int shape, int what) {
        Shape s = shapeAt(shape);
        if (s == null || what < 0 || what > 2 || !s.ring.isPolygon()) {
            return NO;
        }
        narrowest.find(s.ring);
        if (what == 0) {
            return narrowest.across;
        }
        return what == 1 ? narrowest.a : narrowest.b;
    }

    // ---- maps, sums

    public int map(int shape, int to, int a, int b, int c, int d, int e, int f) {
        Shape s = shapeAt(shape);
        Shape t = shapeAt(to);
        boolean near = onGrid(a) && onGrid(b) && onGrid(c) && onGrid(d) && onGrid(e) && onGrid(f);
        if (s == null || t == null || !near) {
            return BAD;
        }
        int turn = a * d - b * c;
        if (turn != 1 && turn != -1) {
            return NOT;
        }
        hull.begin();
        for (int i = 0; i < s.ring.count; i++) {
            int x = a * s.ring.x(i) + b * s.ring.y(i) + e;
            int y = c * s.ring.x(i) + d * s.ring.y(i) + f;
            if (!onGrid(x) || !onGrid(y)) {
                return FULL;
            }
            hull.take(x, y);
        }
        hull.close();
        return remakeIfFits(t);
    }

    public int maps(int shape, int other) {
        Shape s = shapeAt(shape);
        Shape t = shapeAt(other);
        if (s == null || t == null) {
            return BAD;
        }
        if (!s.ring.isPolygon() || !t.ring.isPolygon()) {
            return NOT;
        }
        return mapsBetween(s.ring, t.ring);
    }

    public int alike(int shape, int other) {
        Shape s = shapeAt(shape);
        Shape t = shapeAt(other);
        if (s == null || t == null) {
            return BAD;
        }
        return areAlike(s.ring, t.ring) ? 1 : 0;
    }

    public int heaps() {
        int found = 0;
        for (int i = 0; i < SHAPES; i++) {
            if (isNewHeap(i)) {
                found++;
            }
        }
        return found;
    }

    public int sum(int shape, int other, int to) {
        Shape s = shapeAt(shape);
        Shape t = shapeAt(other);
        Shape target = shapeAt(to);
        if (s == null || t == null || target == null) {
            return BAD;
        }
        hull.closeSum(s.ring, t.ring);
        return remakeIfFits(target);
    }

    public int mixed(int shape, int other) {
        Shape s = shapeAt(shape);
        Shape t = shapeAt(other);
        if (s == null || t == null) {
            return BAD;
        }
        if (s.ring.count == 0 || t.ring.count == 0) {
            return 0;
        }
        hull.closeSum(s.ring, t.ring);
        return hull.ring.area() - s.ring.area() - t.ring.area();
    }

    public long parts(int shape) {
        Shape s = shapeAt(shape);
        if (s == null) {
            return BAD;
        }
        return s.ring.isPolygon() ? choices.howMany(s.ring) : NOT;
    }

    public int part(int shape, int i) {
        Shape s = shapeAt(shape);
        if (s == null || i < -1 || i >= s.ring.count) {
            return BAD;
        }
        if (!s.ring.isPolygon()) {
            return NOT;
        }
        choices.findLeast(s);
        return i == -1 ? choices.total : choices.takenOf(i);
    }

    // ---- duals, rays

    public int normal(int shape, int i, int what) {
        Shape s = shapeAt(shape);
        if (s == null || what < 0 || what > 2 || i < 0 || i >= s.ring.count || !s.ring.isRound()) {
            return NO;
        }
        if (what == 0) {
            return s.ring.normalA(i);
        }
        return what == 1 ? s.ring.normalB(i) : s.ring.far(i);
    }

    public int reflexive(int shape) {
        Shape s = shapeAt(shape);
        if (s == null) {
            return BAD;
        }
        return s.ring.isReflexive() ? 1 : 0;
    }

    public int dual(int shape, int to) {
        Shape s = shapeAt(shape);
        Shape t = shapeAt(to);
        if (s == null || t == null) {
            return BAD;
        }
        if (!s.ring.isReflexive()) {
            return NOT;
        }
        hull.begin();
        for (int i = 0; i < s.ring.count; i++) {
            hull.take(s.ring.normalA(i), s.ring.normalB(i));
        }
        hull.close();
        return remakeIfFits(t);
    }

    public int between(int x, int y, int u, int v) {
        if (!onGrid(x) || !onGrid(y) || !onGrid(u) || !onGrid(v)) {
            return BAD;
        }
        if (!isAngle(x, y, u, v)) {
            return NOT;
        }
        sail.walk(x, y, u, v, 0);
        return sail.count;
    }

    public int ray(int x, int y, int u, int v, int i, int what) {
        if (!onGrid(x) || !onGrid(y) || !onGrid(u) || !onGrid(v) || i < 0 || what < 0 || what > 2) {
            return NO;
        }
        if (!isAngle(x, y, u, v)) {
            return NO;
        }
        sail.walk(x, y, u, v, i);
        if (i >= sail.count) {
            return NO;
        }
        if (what == 0) {
            return sail.x;
        }
        return what == 1 ? sail.y : sail.bend;
    }

    // ---- cuts

    public int cuts(int shape, int what) {
        Shape s = shapeAt(shape);
        if (s == null || what < 0 || what > 3) {
            return BAD;
        }
        if (!hasAtMost(s.ring, MOST_CUT_POINTS)) {
            return NOT;
        }
        if (what == 2) {
            return segmentsOf(s.ring);
        }
        if (what == 3) {
            return s.ring.area();
        }
        if (!cutting.build(s)) {
            return SPENT;
        }
        return what == 0 ? cutting.count : cutting.farthest();
    }

    public int cut(int shape, int i, int what) {
        Shape s = shapeAt(shape);
        if (s == null || i < 0 || what < -1) {
            return BAD;
        }
        if (!hasAtMost(s.ring, MOST_CUT_POINTS)) {
            return NOT;
        }
        // BAD goes ahead of SPENT, and how many segments a CUT has is known without making all CUTS.
        if (what >= segmentsOf(s.ring)) {
            return BAD;
        }
        if (!cutting.build(s)) {
            return SPENT;
        }
        if (i >= cutting.count) {
            return BAD;
        }
        return what == -1 ? cutting.farOf(i) : cutting.segmentAt(i, what);
    }

    public int flips(int shape, int i) {
        Shape s = shapeAt(shape);
        if (s == null || i < 0) {
            return BAD;
        }
        if (!hasAtMost(s.ring, MOST_CUT_POINTS)) {
            return NOT;
        }
        if (!cutting.build(s)) {
            return SPENT;
        }
        return i >= cutting.count ? BAD : cutting.flipsOf(i);
    }

    // ---- heights

    public int height(int shape, int i, int v) {
        Shape s = shapeAt(shape);
        if (s == null || v < -MOST_HEIGHT || v > MOST_HEIGHT || !hasAtMost(s.ring, MOST_LIFTED)) {
            return NO;
        }
        if (i < 0 || i >= s.ring.all() || i >= MOST_LIFTED) {
            return NO;
        }
        int was = s.heights[i];
        s.heights[i] = v;
        s.stamp = newStamp();
        return was;
    }

    public int pieces(int shape, int what) {
        Shape s = shapeAt(shape);
        if (s == null || what < 0 || what > 2) {
            return BAD;
        }
        if (!hasAtMost(s.ring, MOST_LIFTED)) {
            return NOT;
        }
        coarse.build(s);
        if (what == 0) {
            return coarse.count;
        }
        return what == 1 ? coarse.seen() : coarse.unitTriangles();
    }

    public int piece(int shape, int piece, int i) {
        Shape s = shapeAt(shape);
        if (s == null || piece < 0 || i < -1) {
            return BAD;
        }
        if (!hasAtMost(s.ring, MOST_LIFTED)) {
            return NOT;
        }
        coarse.build(s);
        if (piece >= coarse.count || i >= coarse.sizeOf(piece)) {
            return BAD;
        }
        return i == -1 ? coarse.sizeOf(piece) : coarse.memberOf(piece, i);
    }

    // ---- what the calls share

    private Shape shapeAt(int shape) {
        return shape < 0 || shape >= shapes.length ? null : shapes[shape];
    }

    private int newStamp() {
        stamps++;
        return stamps;
    }

    /** Makes a SHAPE anew of the hull that was closed last, or refuses it and changes nothing. */
    private int remakeIfFits(Shape s) {
        if (hull.ring.count > MOST_CORNERS || !hull.ring.isOnGrid()) {
            return FULL;
        }
        remake(s);
        return s.ring.count;
    }

    private void remake(Shape s) {
        s.ring.count = 0;
        for (int i = 0; i < hull.ring.count; i++) {
            s.ring.append(hull.ring.x(i), hull.ring.y(i));
        }
        Arrays.fill(s.heights, 0);
        s.stamp = newStamp();
    }

    private boolean isNewHeap(int i) {
        Shape s = shapeAt(i);
        if (s == null || !s.ring.isPolygon()) {
            return false;
        }
        for (int j = 0; j < i; j++) {
            Shape t = shapeAt(j);
            if (t != null && areAlike(s.ring, t.ring)) {
                return false;
            }
        }
        return true;
    }

    private static boolean onGrid(int v) {
        return v >= -GRID && v <= GRID;
    }

    private static boolean isWay(int a, int b) {
        if (a < 0 || a > MOST_WAY || b < -MOST_WAY || b > MOST_WAY) {
            return false;
        }
        return a == 0 ? b == 1 : gcd(a, b) == 1;
    }

    private static boolean isAngle(int x, int y, int u, int v) {
        return x * v - y * u > 0;
    }

    private static boolean hasAtMost(Ring r, int most) {
        return r.isPolygon() && r.all() <= most;
    }

    /** Each triangle has three segments; those on the edge belong to one triangle, the others to two. */
    private static int segmentsOf(Ring r) {
        return (3 * r.area() + r.onEdge()) / 2;
    }

    private static int gcd(int a, int b) {
        int m = Math.abs(a);
        int n = Math.abs(b);
        for (int i = 0; i < 64 && n != 0; i++) {
            int rest = m % n;
            m = n;
            n = rest;
        }
        return m;
    }

    private static boolean areAlike(Ring p, Ring q) {
        if (p.count < 3 || q.count < 3) {
            return p.count == q.count && p.onEdge() == q.onEdge();
        }
        return mapsBetween(p, q) > 0;
    }

    /** A MAP takes CORNERS to CORNERS, round about or back, so it is told by the CORNER that the first one goes to. */
    private static int mapsBetween(Ring p, Ring q) {
        if (p.count != q.count || p.area() != q.area()) {
            return 0;
        }
        int found = 0;
        for (int start = 0; start < q.count; start++) {
            if (mapFits(p, q, start, 1)) {
                found++;
            }
            if (mapFits(p, q, start, -1)) {
                found++;
            }
        }
        return found;
    }

    private static boolean mapFits(Ring p, Ring q, int start, int turn) {
        int next = q.around(start, turn);
        int last = q.around(start, -turn);
        int px = p.x(1) - p.x(0);
        int py = p.y(1) - p.y(0);
        int rx = p.x(p.count - 1) - p.x(0);
        int ry = p.y(p.count - 1) - p.y(0);
        int nx = q.x(next) - q.x(start);
        int ny = q.y(next) - q.y(start);
        int lx = q.x(last) - q.x(start);
        int ly = q.y(last) - q.y(start);
        int whole = px * ry - py * rx;
        if (whole == 0 || nx * ly - ny * lx != turn * whole) {
            return false;
        }
        int a = nx * ry - lx * py;
        int b = lx * px - nx * rx;
        int c = ny * ry - ly * py;
        int d = ly * px - ny * rx;
        if (a % whole != 0 || b % whole != 0 || c % whole != 0 || d % whole != 0) {
            return false;
        }
        int to = start;
        for (int i = 0; i < p.count; i++) {
            int x = p.x(i) - p.x(0);
            int y = p.y(i) - p.y(0);
            boolean same = a * x + b * y == whole * (q.x(to) - q.x(start))
                    && c * x + d * y == whole * (q.y(to) - q.y(start));
            if (!same) {
                return false;
            }
            to = q.around(to, turn);
        }
        return true;
    }

    /** A SHAPE with what belongs to it. Its stamp is new whenever anything of it has changed. */
    private static final class Shape {
        final Ring ring = new Ring(MOST_CORNERS);
        final int[] heights = new int[MOST_LIFTED];
        int stamp;
    }

    /** Grid points in a row, as many as there is room for. */
    private abstract static class Row {
        private final int[] xs;
        private final int[] ys;
        int count;

        Row(int most) {
            xs = new int[most];
            ys = new int[most];
        }

        int x(int i) {
            return i >= 0 && i < xs.length ? xs[i] : 0;
        }

        int y(int i) {
            return i >= 0 && i < ys.length ? ys[i] : 0;
        }

        void append(int x, int y) {
            if (count >= 0 && count < xs.length && count < ys.length) {
                xs[count] = x;
                ys[count] = y;
                count++;
            }
        }
    }

    /** CORNERS, anticlockwise from the least one on. */
    private static final class Ring extends Row {
        Ring(int most) {
            super(most);
        }

        boolean isPolygon() {
            return count >= 3;
        }

        boolean isOnGrid() {
            for (int i = 0; i < count; i++) {
                if (!onGrid(x(i)) || !onGrid(y(i))) {
                    return false;
                }
            }
            return true;
        }

        /** The CORNER beside CORNER i, on (turn 1) or back (turn -1). */
        int around(int i, int turn) {
            int to = i + turn;
            if (to >= count) {
                return 0;
            }
            return to < 0 ? count - 1 : to;
        }

        int sideX(int i) {
            return x(around(i, 1)) - x(i);
        }

        int sideY(int i) {
            return y(around(i, 1)) - y(i);
        }

        int stepsOf(int i) {
            return gcd(sideX(i), sideY(i));
        }

        int area() {
            int twice = 0;
            for (int i = 0; i < count; i++) {
                twice += x(i) * sideY(i) - y(i) * sideX(i);
            }
            return twice;
        }

        int onEdge() {
            if (count < 3) {
                return count == 0 ? 0 : stepsOf(0) + 1;
            }
            int steps = 0;
            for (int i = 0; i < count; i++) {
                steps += stepsOf(i);
            }
            return steps;
        }

        int inside() {
            return count < 3 ? 0 : (area() - onEdge()) / 2 + 1;
        }

        int all() {
            return onEdge() + inside();
        }

        long allTimes(int n) {
            if (count == 0) {
                return 0;
            }
            if (count < 3) {
                return (long) n * (onEdge() - 1) + 1;
            }
            return ((long) n * n * area() + (long) n * onEdge()) / 2 + 1;
        }

        long insideTimes(int n) {
            return n == 0 ? 0 : ((long) n * n * area() - (long) n * onEdge()) / 2 + 1;
        }

        int leftmost() {
            return x(0);
        }

        int rightmost() {
            int most = x(0);
            for (int i = 1; i < count; i++) {
                most = Math.max(most, x(i));
            }
            return most;
        }

        int bottom() {
            int lowest = y(0);
            for (int i = 1; i < count; i++) {
                lowest = Math.min(lowest, y(i));
            }
            return lowest;
        }

        int top() {
            int highest = y(0);
            for (int i = 1; i < count; i++) {
                highest = Math.max(highest, y(i));
            }
            return highest;
        }

        /** The lowest grid point of a column from leftmost() to rightmost(); a SIDE to the right bounds it from below. */
        int lowestAt(int x) {
            int lowest = bottom();
            for (int i = 0; i < count; i++) {
                int dx = sideX(i);
                if (dx > 0) {
                    lowest = Math.max(lowest, y(i) - Math.floorDiv((x(i) - x) * sideY(i), dx));
                }
            }
            return lowest;
        }

        /** The highest grid point of such a column; below lowestAt(x) if there is none in it. */
        int highestAt(int x) {
            int highest = top();
            for (int i = 0; i < count; i++) {
                int dx = -sideX(i);
                if (dx > 0) {
                    highest = Math.min(highest, y(i) + Math.floorDiv((x(i) - x) * sideY(i), dx));
                }
            }
            return highest;
        }

        /** Where a POINT lies: 0 outside, 1 on the edge, 2 INSIDE. */
        int standing(int x, int y) {
            if (count == 0 || x < leftmost() || x > rightmost() || y < lowestAt(x) || y > highestAt(x)) {
                return 0;
            }
            for (int i = 0; i < count; i++) {
                if (sideX(i) * (y - y(i)) == sideY(i) * (x - x(i))) {
                    return 1;
                }
            }
            return 2;
        }

        /** x (what = 0) or y of the i-th of ALL POINTS. */
        int coordinate(int i, int what) {
            if (count == 0) {
                return NO;
            }
            int left = i;
            for (int x = leftmost(); x <= rightmost(); x++) {
                int lowest = lowestAt(x);
                int here = Math.max(0, highestAt(x) - lowest + 1);
                if (left < here) {
                    return what == 0 ? x : lowest + left;
                }
                left -= here;
            }
            return NO;
        }

        int across(int a, int b) {
            int least = a * x(0) + b * y(0);
            int greatest = least;
            for (int i = 1; i < count; i++) {
                int here = a * x(i) + b * y(i);
                least = Math.min(least, here);
                greatest = Math.max(greatest, here);
            }
            return greatest - least;
        }

        boolean isRound() {
            return isPolygon() && standing(0, 0) == 2;
        }

        /** The plane lies to the left of each SIDE, so its NORMAL points to the right. */
        int normalA(int i) {
            int steps = stepsOf(i);
            return steps == 0 ? 0 : sideY(i) / steps;
        }

        int normalB(int i) {
            int steps = stepsOf(i);
            return steps == 0 ? 0 : -sideX(i) / steps;
        }

        int far(int i) {
            return normalA(i) * x(i) + normalB(i) * y(i);
        }

        boolean isReflexive() {
            if (!isRound()) {
                return false;
            }
            for (int i = 0; i < count; i++) {
                if (far(i) != 1) {
                    return false;
                }
            }
            return true;
        }
    }

    /** The hull of grid points: of each column only the lowest and the highest one can be a CORNER. */
    private static final class Hull {
        private final int[] low = new int[COLUMNS];
        private final int[] high = new int[COLUMNS];
        final Ring ring = new Ring(2 * COLUMNS + 1);

        void begin() {
            Arrays.fill(low, REACH + 1);
            Arrays.fill(high, -REACH - 1);
        }

        void take(int x, int y) {
            int column = x + REACH;
            if (column < 0 || column >= COLUMNS || y < -REACH || y > REACH) {
                return;
            }
            low[column] = Math.min(low[column], y);
            high[column] = Math.max(high[column], y);
        }

        void takeRing(Ring r) {
            for (int i = 0; i < r.count; i++) {
                take(r.x(i), r.y(i));
            }
        }

        void close() {
            ring.count = 0;
            for (int column = 0; column < COLUMNS; column++) {
                if (low[column] <= high[column]) {
                    push(column - REACH, low[column], 0);
                }
            }
            int turning = ring.count - 1;
            for (int column = COLUMNS - 1; column >= 0; column--) {
                if (low[column] <= high[column]) {
                    push(column - REACH, high[column], turning);
                }
            }
            if (ring.count > 1 && isLast(ring.x(0), ring.y(0))) {
                ring.count--;
            }
        }

        void closeSum(Ring p, Ring q) {
            begin();
            for (int i = 0; i < p.count; i++) {
                for (int j = 0; j < q.count; j++) {
                    take(p.x(i) + q.x(j), p.y(i) + q.y(j));
                }
            }
            close();
        }

        private boolean isLast(int x, int y) {
            return ring.count > 0 && ring.x(ring.count - 1) == x && ring.y(ring.count - 1) == y;
        }

        /** Goes on to a point; those behind the chain's first one at which there is no left turn are no CORNERS. */
        private void push(int x, int y, int first) {
            if (isLast(x, y)) {
                return;
            }
            while (ring.count - first >= 2 && !turnsLeft(x, y)) {
                ring.count--;
            }
            ring.append(x, y);
        }

        private boolean turnsLeft(int x, int y) {
            int last = ring.count - 1;
            int dx = ring.x(last) - ring.x(last - 1);
            int dy = ring.y(last) - ring.y(last - 1);
            return dx * (y - ring.y(last)) - dy * (x - ring.x(last)) > 0;
        }
    }

    /** LEAST WIDTH of a POLYGON and its WAY. */
    private static final class LeastWidth {
        int across;
        int a;
        int b;

        /**
         * Along a WAY no worse than the best one the two SIDES at the first CORNER have widths m and n of that much at
         * most; these two widths tell the WAY, so all such m and n are tried. That (a, b) and (-a, -b) are one WAY
         * spares m below 0; that a multiple of a WAY is wider than it spares a test for common divisors.
         */
        void find(Ring r) {
            a = 0;
            b = 1;
            across = r.across(0, 1);
            weigh(r, 1, 0);
            int px = r.sideX(0);
            int py = r.sideY(0);
            int qx = r.x(r.count - 1) - r.x(0);
            int qy = r.y(r.count - 1) - r.y(0);
            int whole = px * qy - py * qx;
            if (whole == 0) {
                return;
            }
            for (int m = 0; m <= across; m++) {
                for (int n = -across; n <= across; n++) {
                    int u = m * qy - n * py;
                    int v = n * px - m * qx;
                    if (u % whole == 0 && v % whole == 0) {
                        weigh(r, u / whole, v / whole);
                    }
                }
            }
        }

        private void weigh(Ring r, int u, int v) {
            if (u == 0 && v == 0) {
                return;
            }
            boolean isWay = u > 0 || u == 0 && v > 0;
            int p = isWay ? u : -u;
            int q = isWay ? v : -v;
            int here = r.across(p, q);
            if (here < across || here == across && (p < a || p == a && q < b)) {
                across = here;
                a = p;
                b = q;
            }
        }
    }

    /** The LEAST POINTS BETWEEN two rays: how many, and the one that was wanted. */
    private static final class Sail {
        int count;
        int x;
        int y;
        int bend;
        private int secondX;
        private int secondY;

        /**
         * Of two neighbours and the ray v: the next point is a multiple of the later one, less the earlier one, and the
         * multiple is the least that does not step over the ray.
         */
        void walk(int ux, int uy, int vx, int vy, int wanted) {
            int whole = gcd(ux, uy);
            int end = gcd(vx, vy);
            count = 0;
            if (whole == 0 || end == 0) {
                return;
            }
            int px = ux / whole;
            int py = uy / whole;
            int tx = vx / end;
            int ty = vy / end;
            keep(px, py, NO, wanted);
            findSecond(px, py, tx, ty);
            int cx = secondX;
            int cy = secondY;
            int before = px * ty - py * tx;
            int rest = cx * ty - cy * tx;
            for (int i = 0; i < COLUMNS * COLUMNS && rest > 0; i++) {
                int multiple = -Math.floorDiv(-before, rest);
                keep(cx, cy, multiple, wanted);
                int nx = multiple * cx - px;
                int ny = multiple * cy - py;
                px = cx;
                py = cy;
                cx = nx;
                cy = ny;
                before = rest;
                rest = cx * ty - cy * tx;
            }
            keep(tx, ty, NO, wanted);
        }

        /** Any point that has the cross product 1 with the first one, moved along u back to where the ray v is near. */
        private void findSecond(int px, int py, int tx, int ty) {
            int wx = -py;
            int wy = 0;
            for (int i = 0; px != 0 && i < Math.abs(px); i++) {
                if ((1 + py * i) % px == 0) {
                    wx = i;
                    wy = (1 + py * i) / px;
                }
            }
            int whole = px * ty - py * tx;
            int back = whole == 0 ? 0 : Math.floorDiv(wx * ty - wy * tx, whole);
            secondX = wx - back * px;
            secondY = wy - back * py;
        }

        private void keep(int px, int py, int multiple, int wanted) {
            if (count == wanted) {
                x = px;
                y = py;
                bend = multiple;
            }
            count++;
        }
    }

    /**
     * Choices of STEPS of a POLYGON that come back to where they began. Taken from the least CORNER on, in the order of
     * the SIDES, they go round a polygon that lies within this one: so only places in its frame count.
     */
    private static final class Choices {
        private static final int CELLS = SPAN * SPAN;
        private static final int MANY = 1000000;

        private final long[] ways = new long[CELLS];
        private final long[] nextWays = new long[CELLS];
        /** By SIDE and place: the fewest STEPS of this and later SIDES that lead from the place to the least CORNER. */
        private final int[] fewest = new int[(MOST_CORNERS + 1) * CELLS];
        private final int[] taken = new int[MOST_CORNERS];
        int total;
        private int first;
        private int built = -1;
        private int left;
        private int bottom;
        private int wide;
        private int tall;
        private int steps;
        private int dx;
        private int dy;

        long howMany(Ring r) {
            frame(r);
            Arrays.fill(ways, 0L);
            int home = cell(r.x(0), r.y(0));
            if (home < 0) {
                return 0;
            }
            ways[home] = 1;
            for (int i = 0; i < r.count; i++) {
                takeSide(r, i);
                spread();
                System.arraycopy(nextWays, 0, ways, 0, CELLS);
            }
            return ways[home];
        }

        void findLeast(Shape s) {
            if (built == s.stamp) {
                return;
            }
            built = s.stamp;
            Ring r = s.ring;
            frame(r);
            Arrays.fill(taken, 0);
            total = MANY;
            first = 0;
            lastRow(r);
            for (int i = r.count - 1; i >= 0; i--) {
                takeSide(r, i);
                beginAt(r, i);
                fillRow(i);
            }
            goOn(r);
        }

        int takenOf(int i) {
            return i >= 0 && i < taken.length ? taken[i] : 0;
        }

        private void takeSide(Ring r, int side) {
            steps = r.stepsOf(side);
            dx = steps == 0 ? 0 : r.sideX(side) / steps;
            dy = steps == 0 ? 0 : r.sideY(side) / steps;
        }

        private void frame(Ring r) {
            left = r.leftmost();
            bottom = r.bottom();
            wide = r.rightmost() - left + 1;
            tall = r.top() - bottom + 1;
        }

        private int cell(int x, int y) {
            int column = x - left;
            int row = y - bottom;
            if (column < 0 || column >= wide || row < 0 || row >= tall) {
                return -1;
            }
            int at = column * tall + row;
            return at < CELLS ? at : -1;
        }

        private long waysTo(long[] row, int x, int y) {
            int at = cell(x, y);
            return at >= 0 && at < row.length ? row[at] : 0;
        }

        /**
         * From 0 to all STEPS of a SIDE: what leads to the place a STEP before, and to this one, but not what lies more
         * STEPS behind than there are. The places are gone through so that the one a STEP before comes first.
         */
        private void spread() {
            boolean rising = dx > 0 || dx == 0 && dy > 0;
            for (int i = 0; i < wide; i++) {
                int x = left + (rising ? i : wide - 1 - i);
                for (int j = 0; j < tall; j++) {
                    int y = bottom + (rising ? j : tall - 1 - j);
                    int at = cell(x, y);
                    if (at >= 0) {
                        nextWays[at] = ways[at] + waysTo(nextWays, x - dx, y - dy)
                                - waysTo(ways, x - (steps + 1) * dx, y - (steps + 1) * dy);
                    }
                }
            }
        }

        private int fewestFrom(int side, int x, int y) {
            return fewestAt(side, cell(x, y));
        }

        private int fewestAt(int side, int at) {
            return at < 0 || at >= CELLS || side < 0 || side > MOST_CORNERS ? MANY : fewest[side * CELLS + at];
        }

        private void setFewest(int side, int x, int y, int steps) {
            int at = cell(x, y);
            if (at >= 0 && side >= 0 && side <= MOST_CORNERS) {
                fewest[side * CELLS + at] = steps;
            }
        }

        private void lastRow(Ring r) {
            for (int x = left; x < left + wide; x++) {
                for (int y = bottom; y < bottom + tall; y++) {
                    setFewest(r.count, x, y, MANY);
                }
            }
            setFewest(r.count, r.x(0), r.y(0), 0);
        }

        private void fillRow(int side) {
            for (int x = left; x < left + wide; x++) {
                for (int y = bottom; y < bottom + tall; y++) {
                    setFewest(side, x, y, bestFrom(side, x, y));
                }
            }
        }

        private int bestFrom(int side, int x, int y) {
            int best = MANY;
            for (int k = 0; k <= steps && k < best; k++) {
                int at = cell(x + k * dx, y + k * dy);
                if (at < 0) {
                    return best;
                }
                best = Math.min(best, k + fewestAt(side + 1, at));
            }
            return best;
        }

        /**
         * The choices that take nothing before a SIDE, but something of it. SIDES are tried from the last one on: only
         * fewer STEPS are better, as of equal ones that which begins later has less of an earlier SIDE.
         */
        private void beginAt(Ring r, int side) {
            if (side < 0 || side >= taken.length) {
                return;
            }
            for (int k = 1; k <= steps; k++) {
                int here = k + fewestFrom(side + 1, r.x(0) + k * dx, r.y(0) + k * dy);
                if (here < total) {
                    total = here;
                    first = side;
                    taken[side] = k;
                }
            }
        }

        /** Of the SIDES behind the first one that is taken: as few STEPS of each as lead home in as many as can be. */
        private void goOn(Ring r) {
            int x = r.x(0);
            int y = r.y(0);
            for (int side = first; side < r.count && side < taken.length; side++) {
                takeSide(r, side);
                if (side > first) {
                    taken[side] = firstBest(side, x, y);
                }
                x += taken[side] * dx;
                y += taken[side] * dy;
            }
        }

        private int firstBest(int side, int x, int y) {
            int best = fewestFrom(side, x, y);
            for (int k = 0; k <= steps; k++) {
                if (k + fewestFrom(side + 1, x + k * dx, y + k * dy) == best) {
                    return k;
                }
            }
            return 0;
        }
    }

    /** ALL POINTS of a SHAPE that has not many, by x, then y. */
    private static final class Points extends Row {
        Points(int most) {
            super(most);
        }

        void fill(Ring r) {
            count = 0;
            for (int x = r.leftmost(); x <= r.rightmost(); x++) {
                int highest = r.highestAt(x);
                for (int y = r.lowestAt(x); y <= highest; y++) {
                    append(x, y);
                }
            }
        }

        /** AREA of the triangle i, j, k; below 0 if it is told clockwise. */
        int turn(int i, int j, int k) {
            return (x(j) - x(i)) * (y(k) - y(i)) - (y(j) - y(i)) * (x(k) - x(i));
        }

        int find(int x, int y) {
            for (int i = 0; i < count; i++) {
                if (x(i) == x && y(i) == y) {
                    return i;
                }
            }
            return -1;
        }
    }

    /**
     * All segments that a CUT of a POLYGON may have, by number, and all FLIPS that there may be. Of 12 POINTS at least 12
     * pairs have differences that are even, so POINTS between them: a set of the other 54 fits into a long.
     */
    private static final class Mesh {
        private static final int MOST_SEGMENTS = 63;
        private static final int MOST_FLIPS = MOST_SEGMENTS * MOST_CUT_POINTS;

        final Points points = new Points(MOST_CUT_POINTS);
        private final int[] lesser = new int[MOST_SEGMENTS];
        private final int[] greater = new int[MOST_SEGMENTS];
        private final long[] crossed = new long[MOST_SEGMENTS];
        private final int[] numbers = new int[MOST_CUT_POINTS * MOST_CUT_POINTS];
        int count;
        private final long[] needed = new long[MOST_FLIPS];
        private final long[] changed = new long[MOST_FLIPS];
        int flipCount;

        void build(Ring r) {
            points.fill(r);
            count = 0;
            flipCount = 0;
            Arrays.fill(numbers, -1);
            for (int a = 0; a < points.count; a++) {
                for (int b = a + 1; b < points.count; b++) {
                    if (gcd(points.x(b) - points.x(a), points.y(b) - points.y(a)) == 1) {
                        appendSegment(a, b);
                    }
                }
            }
            for (int s = 0; s < count; s++) {
                noteCrossed(s);
                noteFlips(s);
            }
        }

        /** One by one each segment that crosses none taken before. */
        long firstCut() {
            long set = 0;
            for (int s = 0; s < count && s < MOST_SEGMENTS; s++) {
                if ((crossed[s] & set) == 0) {
                    set |= 1L << s;
                }
            }
            return set;
        }

        /** The set after a FLIP, or 0 if it can't be flipped so. */
        long flipped(long set, int flip) {
            if (flip < 0 || flip >= MOST_FLIPS || (set & needed[flip]) != needed[flip]) {
                return 0;
            }
            return set ^ changed[flip];
        }

        int told(int s) {
            return s < 0 || s >= MOST_SEGMENTS ? BAD : 16 * lesser[s] + greater[s];
        }

        private void appendSegment(int a, int b) {
            int at = a * MOST_CUT_POINTS + b;
            if (count < MOST_SEGMENTS && at >= 0 && at < numbers.length) {
                lesser[count] = a;
                greater[count] = b;
                numbers[at] = count;
                count++;
            }
        }

        private int number(int a, int b) {
            int at = Math.min(a, b) * MOST_CUT_POINTS + Math.max(a, b);
            return at < 0 || at >= numbers.length ? -1 : numbers[at];
        }

        private void noteCrossed(int s) {
            if (s < 0 || s >= MOST_SEGMENTS) {
                return;
            }
            crossed[s] = 0;
            for (int t = 0; t < count && t < MOST_SEGMENTS; t++) {
                if (cross(lesser[s], greater[s], lesser[t], greater[t])) {
                    crossed[s] |= 1L << t;
                }
            }
        }

        /** No POINT is on another segment than its own ones, so two that meet elsewhere go right through each other. */
        private boolean cross(int a, int b, int c, int d) {
            return points.turn(a, b, c) * points.turn(a, b, d) < 0 && points.turn(c, d, a) * points.turn(c, d, b) < 0;
        }

        /** Two triangles of the AREA 1 have only corners below a half turn together, if they are a parallelogram. */
        private void noteFlips(int s) {
            if (s < 0 || s >= MOST_SEGMENTS) {
                return;
            }
            int a = lesser[s];
            int b = greater[s];
            for (int c = 0; c < points.count; c++) {
                if (points.turn(a, b, c) == 1) {
                    int d = points.find(points.x(a) + points.x(b) - points.x(c), points.y(a) + points.y(b) - points.y(c));
                    if (d >= 0) {
                        noteFlip(a, b, c, d);
                    }
                }
            }
        }

        private void noteFlip(int a, int b, int c, int d) {
            int gone = number(a, b);
            int come = number(c, d);
            int ac = number(a, c);
            int bc = number(b, c);
            int ad = number(a, d);
            int bd = number(b, d);
            if (gone < 0 || come < 0 || ac < 0 || bc < 0 || ad < 0 || bd < 0 || flipCount >= MOST_FLIPS) {
                return;
            }
            needed[flipCount] = 1L << gone | 1L << ac | 1L << bc | 1L << ad | 1L << bd;
            changed[flipCount] = 1L << gone | 1L << come;
            flipCount++;
        }
    }

    /** ALL CUTS of a POLYGON, as they come, each a set of segments. */
    private static final class Cuts {
        private static final int PLACES = 4096;

        private final Mesh mesh = new Mesh();
        private final long[] sets = new long[MOST_CUTS];
        private final int[] far = new int[MOST_CUTS];
        /** Where a set stands in sets, and 1: looked up by the set, in the next free place if another one is there. */
        private final int[] places = new int[PLACES];
        int count;
        private boolean spent;
        private int built = -1;

        /** Whether there are no more than can be told. */
        boolean build(Shape s) {
            if (built != s.stamp) {
                built = s.stamp;
                mesh.build(s.ring);
                search();
            }
            return !spent;
        }

        int farthest() {
            return farOf(count - 1);
        }

        int farOf(int i) {
            return i >= 0 && i < far.length ? far[i] : 0;
        }

        int flipsOf(int i) {
            int found = 0;
            for (int flip = 0; flip < mesh.flipCount; flip++) {
                if (mesh.flipped(setOf(i), flip) != 0) {
                    found++;
                }
            }
            return found;
        }

        int segmentAt(int i, int which) {
            int left = which;
            for (int s = 0; s < mesh.count; s++) {
                if ((setOf(i) >>> s & 1) == 1) {
                    if (left == 0) {
                        return mesh.told(s);
                    }
                    left--;
                }
            }
            return BAD;
        }

        private long setOf(int i) {
            return i >= 0 && i < sets.length ? sets[i] : 0;
        }

        private void search() {
            Arrays.fill(places, 0);
            count = 0;
            spent = false;
            enter(mesh.firstCut(), 0);
            for (int i = 0; i < count && !spent; i++) {
                for (int flip = 0; flip < mesh.flipCount && !spent; flip++) {
                    long set = mesh.flipped(setOf(i), flip);
                    if (set != 0) {
                        enter(set, farOf(i) + 1);
                    }
                }
            }
        }

        private void enter(long set, int steps) {
            int place = (int) (set * 0x9E3779B97F4A7C15L >>> 52) & PLACES - 1;
            for (int i = 0; i < PLACES && places[place] != 0; i++) {
                if (setOf(places[place] - 1) == set) {
                    return;
                }
                place = place + 1 & PLACES - 1;
            }
            if (count >= MOST_CUTS) {
                spent = true;
                return;
            }
            sets[count] = set;
            far[count] = steps;
            count++;
            places[place] = count;
        }
    }

    /** The COARSE CUT. A PIECE is a set of POINTS, the first POINT its highest bit: so the greater number comes first. */
    private static final class Coarse {
        /** No cut of 40 POINTS has more triangles than twice the POINTS. */
        private static final int MOST_PIECES = 2 * MOST_LIFTED;

        private final Points points = new Points(MOST_LIFTED);
        private final long[] sets = new long[MOST_PIECES];
        int count;
        private int built = -1;

        void build(Shape s) {
            if (built == s.stamp) {
                return;
            }
            built = s.stamp;
            points.fill(s.ring);
            count = 0;
            for (int i = 0; i < points.count; i++) {
                for (int j = i + 1; j < points.count; j++) {
                    enter(planeOf(s.heights, i, j, lowestLeft(s.heights, i, j)));
                }
            }
        }

        int sizeOf(int piece) {
            return Long.bitCount(setOf(piece));
        }

        int memberOf(int piece, int which) {
            int left = which;
            for (int i = 0; i < points.count; i++) {
                if ((setOf(piece) & bit(i)) != 0) {
                    if (left == 0) {
                        return i;
                    }
                    left--;
                }
            }
            return BAD;
        }

        int seen() {
            long all = 0;
            for (int i = 0; i < count; i++) {
                all |= setOf(i);
            }
            return Long.bitCount(all);
        }

        int unitTriangles() {
            int found = 0;
            for (int i = 0; i < count; i++) {
                if (sizeOf(i) == 3 && Math.abs(points.turn(memberOf(i, 0), memberOf(i, 1), memberOf(i, 2))) == 1) {
                    found++;
                }
            }
            return found;
        }

        private static long bit(int i) {
            return 1L << 62 - i;
        }

        private long setOf(int piece) {
            return piece >= 0 && piece < sets.length ? sets[piece] : 0;
        }

        /**
         * Of the POINTS to the left of i, j one that no other one there is below the plane of, or -1 if there is none. A
         * PIECE has such an edge i, j from its least POINT on, with i below j, and the whole of it to the left.
         */
        private int lowestLeft(int[] heights, int i, int j) {
            int lowest = -1;
            for (int k = 0; k < points.count; k++) {
                if (points.turn(i, j, k) > 0 && (lowest < 0 || above(heights, i, j, lowest, k) < 0)) {
                    lowest = k;
                }
            }
            return lowest;
        }

        /** How far POINT m is above the plane of i, j, k, which go anticlockwise, times their AREA. */
        private int above(int[] heights, int i, int j, int k, int m) {
            int most = Math.max(Math.max(i, j), Math.max(k, m));
            int least = Math.min(Math.min(i, j), Math.min(k, m));
            if (least < 0 || most >= heights.length) {
                return 0;
            }
            return points.turn(i, j, k) * (heights[m] - heights[i])
                    - points.turn(i, m, k) * (heights[j] - heights[i])
                    - points.turn(i, j, m) * (heights[k] - heights[i]);
        }

        /** All POINTS in the plane of three, or 0 if there is no third one, or some POINT lies below their plane. */
        private long planeOf(int[] heights, int i, int j, int k) {
            if (k < 0) {
                return 0;
            }
            long set = 0;
            for (int m = 0; m < points.count; m++) {
                int here = above(heights, i, j, k, m);
                if (here < 0) {
                    return 0;
                }
                if (here == 0) {
                    set |= bit(m);
                }
            }
            return set;
        }

        private boolean isKnown(long set) {
            for (int i = 0; i < count; i++) {
                if (setOf(i) == set) {
                    return true;
                }
            }
            return false;
        }

        private void enter(long set) {
            if (set == 0 || count >= MOST_PIECES || isKnown(set)) {
                return;
            }
            int at = count;
            while (at > 0 && sets[at - 1] < set) {
                sets[at] = sets[at - 1];
                at--;
            }
            sets[at] = set;
            count++;
        }
    }
}
