// What promises 2 to 30 say of each call's bounds: the first and the last number that is taken, those next to them and far
// beyond, one by one; what else is refused; what the call answers at its bounds. A refused call changes nothing.
public final class CallsTest extends Checks {
    /** A call with its arguments in a row. */
    private interface Call {
        long of(GridPolygons g, int... a);
    }

    private static final int[] HEXAGON = {1, 0, 1, 1, 0, 1, -1, 0, -1, -1, 0, -1};
    private static final int[] SHAPE = {0, 7};
    private static final int[] GRID = {-40, 40};
    private static String promise = "";

    private static void promise(String text) {
        promise = text;
    }

    private static void is(String call, long got, long want) {
        due(promise + " / " + call, got, want);
    }

    /** Eight times a hexagon that is REFLEXIVE, has 7 POINTS, the first one 5 high. */
    private static GridPolygons hexagons() {
        GridPolygons g = new GridPolygons();
        for (int shape = 0; shape < 8; shape++) {
            make(g, shape, HEXAGON);
            g.height(shape, 0, 5);
        }
        return g;
    }

    /**
     * Whether a call refuses each of its arguments next to its bounds and far beyond, but not at them, where the others are
     * as told. The bounds are two each, the least and the greatest one.
     */
    private static void isBound(String name, Call call, int refusal, int[] good, int[]... bounds) {
        GridPolygons g = hexagons();
        String before = told(g);
        for (int i = 0; i < bounds.length; i++) {
            int[] beyond = {bounds[i][0] - 1, bounds[i][1] + 1, LOW, HIGH};
            for (int v : beyond) {
                is(name + ", number " + i + " is " + v, call.of(g, changed(good, i, v)), refusal);
            }
            dueText(promise + " / " + name + ", refused: all CORNERS and HEIGHTS", told(g), before);
            for (int v : bounds[i]) {
                long answer = call.of(hexagons(), changed(good, i, v));
                is(name + ", number " + i + " is " + v + ", refused", answer == refusal ? 1 : 0, 0);
            }
        }
    }

    private static int[] changed(int[] row, int i, int v) {
        int[] now = row.clone();
        now[i] = v;
        return now;
    }

    private static int[] row(int... a) {
        return a;
    }

    private static void p02Clear() {
        promise("clear: A SHAPE is EMPTY: how many CORNERS it had. BAD.");
        isBound("clear", (g, a) -> g.clear(a[0]), BAD, row(0), SHAPE);
        GridPolygons g = new GridPolygons();
        int[] had = {0, 1, 2, 3};
        int[][] shapes = {{}, {3, 3}, {3, 3, 4, 4}, {3, 3, 4, 4, 3, 4}};
        for (int i = 0; i < 4; i++) {
            make(g, 1, shapes[i]);
            is("clear of " + had[i], g.clear(1), had[i]);
            is("clear again", g.clear(1), 0);
        }
        make24(g, 1, -10, 5, 1);
        is("clear of 24", g.clear(1), 24);
    }

    private static void p03Add() {
        promise("add: The hull of a SHAPE and a POINT: how many CORNERS. BAD; FULL: it would have more than 24.");
        isBound("add", (g, a) -> g.add(a[0], a[1], a[2]), BAD, row(0, 1, 1), SHAPE, GRID, GRID);
        GridPolygons g = new GridPolygons();
        make24(g, 7, -30, 0, 3);
        String before = told(g);
        is("a 25th CORNER", g.add(7, 1, -23), FULL);
        is("another 25th CORNER", g.add(7, -29, -4), FULL);
        is("BAD ahead of FULL", g.add(7, 1, -41), BAD);
        dueText(promise, told(g), before);
        is("INSIDE", g.add(7, 0, 0), 24);
        is("on the edge", g.add(7, 0, -23), 24);
        is("a CORNER instead of two", g.add(7, -4, -25), 23);
        is("the 24th CORNER", g.add(7, -29, -4), 24);
        is("the 25th CORNER", g.add(7, 20, 7), FULL);
        is("one that hides nearly all", g.add(7, 40, 40) < 24 ? 1 : 0, 1);
    }

    private static void p04Corners() {
        promise("corners: How many CORNERS. BAD.");
        isBound("corners", (g, a) -> g.corners(a[0]), BAD, row(0), SHAPE);
        is("of a hexagon", hexagons().corners(7), 6);
        is("of an EMPTY one", new GridPolygons().corners(7), 0);
    }

    private static void p05Corner() {
        promise("corner: x (what = 0), y (1) of CORNER i. NO: BAD.");
        isBound("corner", (g, a) -> g.corner(a[0], a[1], a[2]), NO, row(0, 0, 0), SHAPE, row(0, 5), row(0, 1));
        GridPolygons g = with(8, 9, 2, 3);
        is("the last CORNER of a SEGMENT", g.corner(0, 1, 1), 9);
        is("none behind it", g.corner(0, 2, 1), NO);
        is("the only CORNER of a POINT", with(8, 9).corner(0, 0, 0), 8);
        is("none behind it", with(8, 9).corner(0, 1, 0), NO);
        is("none of an EMPTY one", with().corner(0, 0, 0), NO);
    }

    private static void p06Points() {
        promise("points: AREA (what = 0), EDGE (1), INSIDE (2), ALL (3). BAD.");
        isBound("points", (g, a) -> g.points(a[0], a[1]), BAD, row(0, 0), SHAPE, row(0, 3));
        int[] want = {6, 6, 1, 7};
        for (int what = 0; what < 4; what++) {
            is("what = " + what, hexagons().points(0, what), want[what]);
        }
    }

    private static void p07Times() {
        promise("times: n TIMES: ALL (what = 0), INSIDE (1; of a POLYGON, else NOT). BAD; NOT.");
        isBound("times", (g, a) -> g.times(a[0], a[1], a[2]), BAD, row(0, 1, 0), SHAPE, row(0, 1000), row(0, 1));
        is("INSIDE of a POLYGON", with(0, 0, 3, 0, 0, 3).times(0, 1, 1), 1);
        int[][] others = {{}, {1, 1}, {1, 1, 5, 3}};
        for (int[] xy : others) {
            is("INSIDE of no POLYGON", with(xy).times(0, 1, 1), NOT);
            is("INSIDE of no POLYGON, 0 TIMES", with(xy).times(0, 0, 1), NOT);
            is("INSIDE of no POLYGON, BAD ahead", with(xy).times(0, -1, 1), BAD);
            is("ALL of no POLYGON", with(xy).times(0, 1, 0), with(xy).points(0, 3));
        }
    }

    private static void p08Where() {
        promise("where: Where a POINT (-40 .. 40) lies: 0 outside, 1 on the edge, 2 INSIDE. BAD.");
        isBound("where", (g, a) -> g.where(a[0], a[1], a[2]), BAD, row(0, 0, 0), SHAPE, GRID, GRID);
        GridPolygons g = with(0, 0, 6, 2, 2, 6);
        is("the first CORNER", g.where(0, 0, 0), 1);
        is("the last SIDE", g.where(0, 1, 3), 1);
        is("just within the last SIDE", g.where(0, 1, 2), 2);
        is("just outside the last SIDE", g.where(0, 1, 4), 0);
        is("in a SIDE's row, behind it", g.where(0, -1, -3), 0);
        is("behind a SEGMENT", with(0, 0, 4, 2).where(0, 6, 3), 0);
        is("ahead of a SEGMENT", with(0, 0, 4, 2).where(0, -2, -1), 0);
        is("above an upright SEGMENT", with(3, -2, 3, 5).where(0, 3, 6), 0);
        is("an upright SEGMENT's end", with(3, -2, 3, 5).where(0, 3, 5), 1);
        is("on a POINT", with(7, 7).where(0, 7, 7), 1);
        is("beside a POINT", with(7, 7).where(0, 7, 8), 0);
        is("an EMPTY one", with().where(0, 0, 0), 0);
        g = with(-12, 5, -9, 5, -9, 7, -12, 7);
        for (int x = -14; x <= -7; x++) {
            for (int y = 3; y <= 9; y++) {
                boolean out = x < -12 || x > -9 || y < 5 || y > 7;
                boolean edge = x == -12 || x == -9 || y == 5 || y == 7;
                is("a rectangle, " + x + " " + y, g.where(0, x, y), out ? 0 : edge ? 1 : 2);
            }
        }
        g = with(-12, 5, -9, 5);
        for (int x = -14; x <= -7; x++) {
            is("a level SEGMENT, " + x, g.where(0, x, 5), x < -12 || x > -9 ? 0 : 1);
        }
    }

    private static void p09Point() {
        promise("point: x (what = 0), y (1) of the i-th of ALL POINTS, by x, then y. NO: BAD.");
        isBound("point", (g, a) -> g.point(a[0], a[1], a[2]), NO, row(0, 0, 0), SHAPE, row(0, 6), row(0, 1));
        GridPolygons g = with(-40, -40, 40, -40, 40, 40, -40, 40);
        is("the last one of the first column", g.point(0, 80, 1), 40);
        is("the first one of the second column, x", g.point(0, 81, 0), -39);
        is("the first one of the second column, y", g.point(0, 81, 1), -40);
        is("the last one of all", g.point(0, 6560, 0), 40);
        is("none behind it", g.point(0, 6561, 0), NO);
        is("a column without POINTS", with(0, 0, 2, 1).point(0, 1, 0), 2);
        is("none behind a SEGMENT", with(0, 0, 2, 1).point(0, 2, 0), NO);
        is("none behind a POINT", with(4, 4).point(0, 1, 0), NO);
        is("none of an EMPTY one", with().point(0, 0, 0), NO);
    }

    private static void p10Width() {
        promise("width: WIDTH along a WAY (a, b -100 .. 100). BAD: no such WAY; NOT: EMPTY.");
        isBound("width", (g, a) -> g.width(a[0], a[1], a[2]), BAD, row(0, 99, 1), SHAPE, row(0, 100), row(-100, 100));
        is("a = 100", hexagons().width(0, 100, -99), 200);
        is("a = 101", hexagons().width(0, 101, -99), BAD);
        is("EMPTY", with().width(0, 1, 0), NOT);
        is("EMPTY, no WAY", with().width(0, 0, 0), BAD);
        is("EMPTY, no WAY, a common divisor", with().width(0, 50, 100), BAD);
        is("POINT", with(3, 3).width(0, 1, 0), 0);
    }

    private static void p11Least() {
        promise("least: LEAST WIDTH (what = 0), its WAY's a (1), b (2). NO: BAD, or no POLYGON.");
        isBound("least", (g, a) -> g.least(a[0], a[1]), NO, row(0, 0), SHAPE, row(0, 2));
        int[][] others = {{}, {1, 1}, {1, 1, 5, 3}};
        for (int[] xy : others) {
            for (int what = 0; what < 3; what++) {
                is("no POLYGON, what = " + what, with(xy).least(0, what), NO);
            }
        }
    }

    private static void p12Map() {
        promise("map: BAD: numbers -40 .. 40; NOT: no MAP; FULL: a CORNER would be beyond -40 .. 40.");
        isBound("map", (g, a) -> g.map(a[0], a[1], a[2], a[3], a[4], a[5], a[6], a[7]), BAD, row(0, 1, 1, 0, 0, 1, 0, 0),
                SHAPE, SHAPE, GRID, GRID, GRID, GRID, GRID, GRID);
        GridPolygons g = hexagons();
        is("39 to the right, 39 up", g.map(0, 1, 1, 0, 0, 1, 39, 39), 6);
        is("39 to the left, 39 down", g.map(0, 2, 1, 0, 0, 1, -39, -39), 6);
        String before = told(g);
        is("40 to the right", g.map(0, 1, 1, 0, 0, 1, 40, 0), FULL);
        is("40 to the left", g.map(0, 1, 1, 0, 0, 1, -40, 0), FULL);
        is("40 up", g.map(0, 1, 1, 0, 0, 1, 0, 40), FULL);
        is("40 down", g.map(0, 1, 1, 0, 0, 1, 0, -40), FULL);
        is("the farthest", g.map(1, 3, 40, 39, -39, -38, 0, 0), FULL);
        make(g, 5, 2, 2);
        before = told(g);
        is("far to the right only", g.map(5, 3, 40, 39, 1, 1, 0, 0), FULL);
        is("far up only", g.map(5, 3, 1, 1, 40, 39, 0, 0), FULL);
        is("no MAP, and beyond", g.map(1, 3, 40, 39, 39, -40, 0, 0), NOT);
        is("no MAP, no such number", g.map(1, 3, 41, 39, 39, -40, 0, 0), BAD);
        dueText(promise, told(g), before);
        g.clear(4);
        is("an EMPTY one is never beyond", g.map(4, 1, 40, 39, 1, 1, 40, 40), 0);
        is("no MAP of an EMPTY one", g.map(4, 2, 2, 0, 0, 2, 0, 0), NOT);
        is("it has become EMPTY", g.corners(1), 0);
        make(g, 5, -40, -40);
        is("a POINT back from the grid's end", g.map(5, 6, 1, 0, 0, 1, 40, 40), 1);
        is("a POINT to the other end", g.map(5, 6, -1, 0, 0, -1, 0, 0), 1);
        is("its x", g.corner(6, 0, 0), 40);
    }

    private static void p13Maps() {
        promise("maps: How many MAPS take one SHAPE to another one (0: they are not ALIKE). BAD; NOT: both are not POLYGONS.");
        isBound("maps", (g, a) -> g.maps(a[0], a[1]), BAD, row(0, 1), SHAPE, SHAPE);
        GridPolygons g = hexagons();
        is("ALIKE", g.maps(0, 7), 12);
        make(g, 1, 0, 0, 1, 0, 0, 1);
        is("not ALIKE", g.maps(0, 1), 0);
        is("not ALIKE, the other way", g.maps(1, 0), 0);
        int[][] others = {{}, {1, 1}, {1, 1, 5, 3}};
        for (int[] xy : others) {
            make(g, 2, xy);
            is("no POLYGON and itself", g.maps(2, 2), NOT);
            is("no POLYGON and a POLYGON", g.maps(2, 0), NOT);
            is("a POLYGON and no POLYGON", g.maps(0, 2), NOT);
            is("no POLYGON and no such SHAPE", g.maps(2, 8), BAD);
        }
    }

    private static void p14Alike() {
        promise("alike: Whether two are ALIKE. BAD.");
        isBound("alike", (g, a) -> g.alike(a[0], a[1]), BAD, row(0, 1), SHAPE, SHAPE);
        is("EMPTY ones", new GridPolygons().alike(0, 7), 1);
    }

    private static void p15Heaps() {
        promise("heaps: HEAPS.");
        is("none", new GridPolygons().heaps(), 0);
        is("eight that are ALIKE", hexagons().heaps(), 1);
    }

    private static void p16Sum() {
        promise("sum: SHAPE to becomes THE SUM: how many CORNERS. BAD; FULL: more than 24 CORNERS, or beyond -40 .. 40.");
        isBound("sum", (g, a) -> g.sum(a[0], a[1], a[2]), BAD, row(0, 1, 2), SHAPE, SHAPE, SHAPE);
        GridPolygons g = hexagons();
        make24(g, 0, -10, 5, 1);
        make(g, 1, 0, 0, 1, 0, 1, 1);
        make(g, 2, 0, 0, 1, 0, 4, 1);
        make(g, 3, 20, 20, -20, -20, -20, 20);
        make(g, 4, 21, 20);
        make(g, 5, -20, -21);
        make(g, 6, 20, -20);
        String before = told(g);
        is("25 CORNERS", g.sum(0, 2, 7), FULL);
        is("41 to the right", g.sum(3, 4, 7), FULL);
        is("41 down", g.sum(3, 5, 7), FULL);
        is("41 up", g.sum(4, 3, 3) == FULL && g.sum(5, 5, 5) == FULL ? FULL : 0, FULL);
        is("41 up and no such SHAPE", g.sum(4, 4, 8), BAD);
        dueText(promise, told(g), before);
        is("24 CORNERS", g.sum(0, 1, 7), 24);
        is("40 to the right, 40 down", g.sum(3, 6, 7), 3);
        is("40 each way", g.sum(3, 3, 3), 3);
        g.clear(7);
        is("EMPTY", g.sum(3, 7, 3), 0);
    }

    private static void p17Mixed() {
        promise("mixed: MIXED AREA. BAD.");
        isBound("mixed", (g, a) -> g.mixed(a[0], a[1]), BAD, row(0, 1), SHAPE, SHAPE);
        is("of an EMPTY one", new GridPolygons().mixed(0, 7), 0);
        is("of an EMPTY one and no SHAPE", new GridPolygons().mixed(0, 8), BAD);
        GridPolygons g = new GridPolygons();
        make24(g, 0, -30, 0, 3);
        make(g, 1, 0, 0, 1, 0, 4, 1);
        is("FULL is not its answer, beyond the grid", g.mixed(0, 0), 2 * g.points(0, 0));
        is("FULL is not its answer, 25 CORNERS", g.mixed(0, 1) > 0 ? 1 : 0, 1);
    }

    private static void p18Parts() {
        promise("parts: PARTS. BAD; NOT: no POLYGON. (-1, -2.)");
        isBound("parts", (g, a) -> g.parts(a[0]), BAD, row(0), SHAPE);
        int[][] others = {{}, {1, 1}, {1, 1, 5, 3}};
        for (int[] xy : others) {
            is("no POLYGON", with(xy).parts(0), NOT);
        }
        is("-1", with().parts(-1), -1L);
        is("-2", with().parts(0), -2L);
        is("a hexagon", hexagons().parts(0), 10);
    }

    private static void p19Part() {
        promise("part: LEAST PART: how many STEPS it takes in all (i = -1), of SIDE i (from CORNER i on). BAD; NOT.");
        isBound("part", (g, a) -> g.part(a[0], a[1]), BAD, row(0, 0), SHAPE, row(-1, 5));
        int[][] others = {{}, {1, 1}, {1, 1, 5, 3}};
        for (int[] xy : others) {
            is("no POLYGON", with(xy).part(0, -1), NOT);
            is("no POLYGON, no such number", with(xy).part(0, -2), BAD);
        }
        is("from the last CORNER on", with(0, 0, 1, 0, 0, 7).part(0, 2), 7);
    }

    private static void p20Normal() {
        promise("normal: Of SIDE i of a ROUND POLYGON: NORMAL's a (what = 0), b (1), FAR (2). NO: BAD, or not ROUND.");
        isBound("normal", (g, a) -> g.normal(a[0], a[1], a[2]), NO, row(0, 0, 0), SHAPE, row(0, 5), row(0, 2));
        int[][] others = {{}, {0, 0}, {-1, -1, 1, 1}, {0, 0, 1, 0, 0, 1}, {-1, 0, 1, 0, 0, 1}, {1, 1, 2, 1, 1, 2}};
        for (int[] xy : others) {
            for (int what = 0; what < 3; what++) {
                is("not ROUND, what = " + what, with(xy).normal(0, 0, what), NO);
            }
        }
    }

    private static void p21Reflexive() {
        promise("reflexive: Whether it is REFLEXIVE. BAD.");
        isBound("reflexive", (g, a) -> g.reflexive(a[0]), BAD, row(0), SHAPE);
        is("a hexagon", hexagons().reflexive(7), 1);
        is("EMPTY", with().reflexive(0), 0);
    }

    private static void p22Dual() {
        promise("dual: SHAPE to becomes the DUAL: how many CORNERS. BAD; NOT: not REFLEXIVE; FULL: beyond -40 .. 40.");
        isBound("dual", (g, a) -> g.dual(a[0], a[1]), BAD, row(0, 1), SHAPE, SHAPE);
        GridPolygons g = hexagons();
        make(g, 1, 1, 0, 40, 1, -1, 0, -40, -1);
        make(g, 2, -2, -2, 2, -2, 2, 2, -2, 2);
        make(g, 3, 1, 0, 39, 1, -1, 0, -39, -1);
        g.clear(4);
        String before = told(g);
        is("a CORNER at -41", g.dual(1, 0), FULL);
        is("not REFLEXIVE", g.dual(2, 0), NOT);
        is("EMPTY", g.dual(4, 0), NOT);
        is("not REFLEXIVE, no such SHAPE", g.dual(2, -1), BAD);
        is("FULL, no such SHAPE", g.dual(1, -1), BAD);
        dueText(promise, told(g), before);
        is("CORNERS at 39, 40", g.dual(3, 0), 4);
        is("onto itself", g.dual(3, 3), 4);
        dueText(promise, corners(g, 3), corners(g, 0));
    }

    private static void p23Between() {
        promise("between: How many LEAST POINTS there are. BAD: POINTS -40 .. 40; NOT: no such angle.");
        isBound("between", (g, a) -> g.between(a[0], a[1], a[2], a[3]), BAD, row(1, 0, 0, 1), GRID, GRID, GRID, GRID);
        GridPolygons g = new GridPolygons();
        is("a half turn", g.between(1, 0, -1, 0), NOT);
        is("no turn", g.between(1, 0, 40, 0), NOT);
        is("clockwise", g.between(0, 1, 1, 0), NOT);
        is("(0, 0)", g.between(0, 0, 1, 0), NOT);
        is("no angle and no such POINT", g.between(0, 0, 41, 0), BAD);
        is("a wrap-around of x times v", g.between(65536, 0, 0, 65536), BAD);
        is("the fewest", g.between(1, 0, 0, 1), 2);
        is("the most", g.between(40, 1, -40, 1), 81);
    }

    private static void p24Ray() {
        promise("ray: Of the i-th of them: x (what = 0), y (1), BEND (2). NO: BAD, NOT, no BEND.");
        isBound("ray", (g, a) -> g.ray(a[0], a[1], a[2], a[3], a[4], a[5]), NO, row(1, -1, 1, 1, 1, 0), row(0, 40), row(-40, 0),
                row(0, 40), row(0, 40), row(0, 2), row(0, 2));
        GridPolygons g = new GridPolygons();
        for (int what = 0; what < 3; what++) {
            is("a half turn, what = " + what, g.ray(1, 0, -1, 0, 0, what), NO);
            is("no turn, what = " + what, g.ray(1, 0, 40, 0, 0, what), NO);
            is("clockwise, what = " + what, g.ray(0, 1, 1, 0, 0, what), NO);
            is("(0, 0), what = " + what, g.ray(1, 0, 0, 0, 0, what), NO);
            is("x = 41, what = " + what, g.ray(41, 0, 0, 1, 0, what), NO);
            is("v = -41, what = " + what, g.ray(1, -40, 1, -41, 0, what), NO);
            is("behind the last, what = " + what, g.ray(1, 0, 0, 1, 2, what), NO);
        }
        is("no BEND of the first", g.ray(1, 0, 0, 1, 0, 2), NO);
        is("no BEND of the last", g.ray(1, 0, 0, 1, 1, 2), NO);
    }

    private static void p25Cuts() {
        promise("cuts: HOW MANY (what = 0), FARTHEST (1), segments (2), triangles (3). BAD; NOT: no POLYGON, or more than 12;"
                + " SPENT (of 0, 1).");
        isBound("cuts", (g, a) -> g.cuts(a[0], a[1]), BAD, row(0, 0), SHAPE, row(0, 3));
        int[][] others = {{}, {1, 1}, {1, 1, 5, 3}, {0, 0, 6, 0, 0, 1, 5, 1}, {-40, -40, 40, -40, 40, 40, -40, 40}};
        for (int[] xy : others) {
            for (int what = 0; what < 4; what++) {
                is("NOT, what = " + what, with(xy).cuts(0, what), NOT);
            }
            is("BAD ahead of NOT", with(xy).cuts(0, 4), BAD);
        }
        int[] want = {SPENT, SPENT, 25, 14};
        for (int what = 0; what < 4; what++) {
            is("SPENT, what = " + what, with(0, 1, 1, 0, 3, 0, 3, 1, 2, 3, 1, 3, 0, 2).cuts(0, what), want[what]);
        }
    }

    private static void p26Cut() {
        promise("cut: Of CUT i: HOW FAR (what = -1), its segment what. BAD; NOT; SPENT.");
        GridPolygons hexagon = hexagons();
        is("CUTS of a hexagon", hexagon.cuts(0, 0), 18);
        is("its segments", hexagon.cuts(0, 2), 12);
        isBound("cut", (g, a) -> g.cut(a[0], a[1], a[2]), BAD, row(0, 0, 0), SHAPE, row(0, 17), row(-1, 11));
        GridPolygons g = with(0, 0, 1, 0, 0, 1, 1, 1);
        is("the last CUT", g.cut(0, 1, -1), 1);
        is("none behind it", g.cut(0, 2, -1), BAD);
        int[][] others = {{}, {1, 1}, {1, 1, 5, 3}, {0, 0, 6, 0, 0, 1, 5, 1}};
        for (int[] xy : others) {
            is("NOT", with(xy).cut(0, 0, 0), NOT);
            is("NOT, HOW FAR", with(xy).cut(0, 0, -1), NOT);
            is("BAD ahead of NOT", with(xy).cut(0, -1, 0), BAD);
        }
        g = with(0, 1, 1, 0, 3, 0, 3, 1, 2, 3, 1, 3, 0, 2);
        is("SPENT", g.cut(0, 0, 24), SPENT);
        is("SPENT, HOW FAR", g.cut(0, 0, -1), SPENT);
        is("BAD ahead of SPENT", g.cut(0, 0, 25), BAD);
    }

    private static void p27Flips() {
        promise("flips: By how many FLIPS a CUT can be changed. BAD; NOT; SPENT.");
        isBound("flips", (g, a) -> g.flips(a[0], a[1]), BAD, row(0, 0), SHAPE, row(0, 17));
        GridPolygons g = with(0, 0, 1, 0, 0, 1, 1, 1);
        is("the last CUT", g.flips(0, 1), 1);
        is("none behind it", g.flips(0, 2), BAD);
        int[][] others = {{}, {1, 1}, {1, 1, 5, 3}, {0, 0, 6, 0, 0, 1, 5, 1}};
        for (int[] xy : others) {
            is("NOT", with(xy).flips(0, 0), NOT);
            is("BAD ahead of NOT", with(xy).flips(0, -1), BAD);
        }
        g = with(0, 1, 1, 0, 3, 0, 3, 1, 2, 3, 1, 3, 0, 2);
        is("SPENT", g.flips(0, 0), SPENT);
        is("BAD ahead of SPENT", g.flips(0, -1), BAD);
    }

    private static void p28Height() {
        promise("height: HEIGHT of a SHAPE's i-th POINT becomes v: what it was. NO: BAD; no POLYGON, or more than 40 POINTS.");
        isBound("height", (g, a) -> g.height(a[0], a[1], a[2]), NO, row(0, 0, 0), SHAPE, row(0, 6), row(-1000, 1000));
        int[][] others = {{}, {1, 1}, {1, 1, 5, 3}, {0, 0, 8, 0, 0, 4, 7, 4}};
        for (int[] xy : others) {
            is("no POLYGON, or 41 POINTS", with(xy).height(0, 0, 0), NO);
        }
        is("40 POINTS", with(0, 0, 7, 0, 0, 4, 7, 4).height(0, 39, 1), 0);
        GridPolygons g = hexagons();
        is("what it was", g.height(7, 6, -1000), 0);
        is("what it was", g.height(7, 6, 1000), -1000);
        is("the same again", g.height(7, 6, 1000), 1000);
        is("of its neighbour", g.height(7, 5, 0), 0);
        is("of another SHAPE", g.height(6, 6, 0), 0);
    }

    private static void p29Pieces() {
        promise("pieces: How many PIECES (what = 0), SEEN POINTS (1), triangles of the AREA 1 among PIECES (2). BAD; NOT.");
        isBound("pieces", (g, a) -> g.pieces(a[0], a[1]), BAD, row(0, 0), SHAPE, row(0, 2));
        int[][] others = {{}, {1, 1}, {1, 1, 5, 3}, {0, 0, 8, 0, 0, 4, 7, 4}};
        for (int[] xy : others) {
            for (int what = 0; what < 3; what++) {
                is("NOT, what = " + what, with(xy).pieces(0, what), NOT);
            }
            is("BAD ahead of NOT", with(xy).pieces(0, 3), BAD);
        }
        is("40 POINTS", with(0, 0, 7, 0, 0, 4, 7, 4).pieces(0, 1), 40);
    }

    private static void p30Piece() {
        promise("piece: Of a PIECE: how many POINTS (i = -1), the number of its i-th one. BAD; NOT.");
        GridPolygons hexagon = hexagons();
        is("PIECES of a hexagon with one POINT up", hexagon.pieces(0, 0), 2);
        is("POINTS of the first one", hexagon.piece(0, 0, -1), 3);
        isBound("piece", (g, a) -> g.piece(a[0], a[1], a[2]), BAD, row(0, 0, 0), SHAPE, row(0, 1), row(-1, 2));
        int[][] others = {{}, {1, 1}, {1, 1, 5, 3}, {0, 0, 8, 0, 0, 4, 7, 4}};
        for (int[] xy : others) {
            is("NOT", with(xy).piece(0, 0, -1), NOT);
            is("BAD ahead of NOT, piece", with(xy).piece(0, -1, -1), BAD);
            is("BAD ahead of NOT, i", with(xy).piece(0, 0, -2), BAD);
        }
    }

    private static void testShapes() {
        p02Clear();
        p03Add();
        p04Corners();
        p05Corner();
        p06Points();
        p07Times();
        p08Where();
        p09Point();
        p10Width();
        p11Least();
    }

    private static void testMapsAndSums() {
        p12Map();
        p13Maps();
        p14Alike();
        p15Heaps();
        p16Sum();
        p17Mixed();
        p18Parts();
        p19Part();
    }

    private static void testOthers() {
        p20Normal();
        p21Reflexive();
        p22Dual();
        p23Between();
        p24Ray();
        p25Cuts();
        p26Cut();
        p27Flips();
        p28Height();
        p29Pieces();
        p30Piece();
    }

    public static void main(String[] args) {
        testShapes();
        testMapsAndSums();
        testOthers();
        end("all calls are bound as told");
    }
}
