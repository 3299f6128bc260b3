// The Terms of ../shared/DOC.md, in their order: each sentence, or part of one, that names a boundary case is quoted and has
// a method of its own. What the promises say of each call is in CallsTest.
public final class TermsTest extends Checks {
    private static final int[] GRID = {-40, -40, 40, -40, 40, 40, -40, 40};
    /** Of its CUTS there are 1371, the most below 1500 that any POLYGON has, and of the other one's 1564, the next above. */
    private static final int[] CUTS_1371 = {1, 0, 3, 1, 4, 2, 4, 3, 3, 4, 2, 4, 1, 1};
    private static final int[] CUTS_1564 = {0, 1, 1, 0, 3, 0, 3, 1, 2, 3, 1, 3, 0, 2};
    private static String sentence = "";

    private static void says(String text) {
        sentence = text;
    }

    private static void is(String call, long got, long want) {
        due("\"" + sentence + "\": " + call, got, want);
    }

    private static void isText(String call, String got, String want) {
        dueText("\"" + sentence + "\": " + call, got, want);
    }

    /** AREA, EDGE, INSIDE, ALL of SHAPE 0. */
    private static void isCounted(GridPolygons g, int area, int edge, int inside, int all) {
        is("AREA", g.points(0, 0), area);
        is("EDGE", g.points(0, 1), edge);
        is("INSIDE", g.points(0, 2), inside);
        is("ALL", g.points(0, 3), all);
    }

    private static int[][] emptyPointSegment() {
        return new int[][] {{}, {7, -9}, {-4, 2, 8, 6}};
    }

    // ---- what it is

    private static void atMost512Calls() {
        says("An object is used for at most 512 calls after it has been made; what later calls answer is free.");
        GridPolygons g = new GridPolygons();
        make(g, 7, 0, 0, 2, 1, 1, 2);
        int calls = 4;
        for (int was = 0; calls < 511; calls++) {
            is("call " + calls, g.height(7, 3, was + 1), was);
            was++;
        }
        is("the last call", g.pieces(7, 0), 3);
        g = with(CUTS_1371);
        make(g, 1, CUTS_1564);
        for (calls = 16; calls < 511; calls += 2) {
            is("CUTS, call " + calls, g.cuts(0, 0), 1371);
            is("CUTS, call " + (calls + 1), g.cuts(1, 0), SPENT);
        }
    }

    // ---- 1

    private static void pointsOfTheGrid() {
        says("POINTS are pairs of whole numbers, -40 .. 40 each.");
        int[] beyond = {-41, 41, LOW, HIGH};
        int[][] last = {{-40, 0}, {40, 0}, {0, -40}, {0, 40}};
        for (int[] p : last) {
            GridPolygons g = with(p);
            is("add", g.corners(0), 1);
            is("x", g.corner(0, 0, 0), p[0]);
            is("y", g.corner(0, 0, 1), p[1]);
            is("where", g.where(0, p[0], p[1]), 1);
        }
        GridPolygons g = with(GRID);
        for (int v : beyond) {
            is("add, x = " + v, g.add(0, v, 0), BAD);
            is("add, y = " + v, g.add(0, 0, v), BAD);
            is("where, x = " + v, g.where(0, v, 0), BAD);
            is("where, y = " + v, g.where(0, 0, v), BAD);
        }
        is("ALL POINTS", g.points(0, 3), 81 * 81);
    }

    private static void eightShapes() {
        says("SHAPES 0 .. 7");
        GridPolygons g = new GridPolygons();
        for (int shape = 0; shape < 8; shape++) {
            is("add to " + shape, g.add(shape, shape, -shape), 1);
        }
        for (int shape = 0; shape < 8; shape++) {
            is("x of " + shape, g.corner(shape, 0, 0), shape);
            is("y of " + shape, g.corner(shape, 0, 1), -shape);
        }
        is("8", g.add(8, 0, 0), BAD);
        is("-1", g.add(-1, 0, 0), BAD);
    }

    private static void emptyAtFirst() {
        says("(each without POINTS at first)");
        GridPolygons g = new GridPolygons();
        for (int shape = 0; shape < 8; shape++) {
            is("CORNERS of " + shape, g.corners(shape), 0);
            is("ALL of " + shape, g.points(shape, 3), 0);
            is("POINT 0 of " + shape, g.point(shape, 0, 0), NO);
            is("where in " + shape, g.where(shape, 0, 0), 0);
        }
    }

    private static void fourSorts() {
        says("are hulls: EMPTY, one POINT, a SEGMENT, or a POLYGON");
        GridPolygons g = new GridPolygons();
        is("EMPTY", g.corners(0), 0);
        is("POINT", g.add(0, 2, 3), 1);
        is("the same POINT", g.add(0, 2, 3), 1);
        is("SEGMENT", g.add(0, 4, 7), 2);
        is("its middle", g.add(0, 3, 5), 2);
        is("its end", g.add(0, 4, 7), 2);
        is("behind its end", g.add(0, 5, 9), 2);
        is("POLYGON", g.add(0, 3, 6), 3);
        isText("its CORNERS", corners(g, 0), "2,3 5,9 3,6");
    }

    private static void atMost24Corners() {
        says("their CORNERS (24 at most)");
        GridPolygons g = new GridPolygons();
        make24(g, 0, -10, 5, 1);
        is("24 CORNERS", g.corners(0), 24);
        is("CORNER 23 is there", g.corner(0, 23, 0), -10);
        is("there is no CORNER 24", g.corner(0, 24, 0), NO);
        make24(g, 1, -30, 0, 3);
        make(g, 2, 0, 0, 1, 0, 4, 1);
        make(g, 3, 0, 0, 1, 0, 1, 1);
        is("a 25th one, by add", g.add(1, 1, -23), FULL);
        is("a 25th one, by sum", g.sum(0, 2, 4), FULL);
        is("none more, by sum", g.sum(0, 3, 4), 24);
        is("THE SUM of more CORNERS has an AREA", g.mixed(0, 2) > 0 ? 1 : 0, 1);
        is("24 still", g.corners(1), 24);
    }

    private static void fromTheLeastOne() {
        says("are told from the least one on (by x, then y), anticlockwise (of a SEGMENT both)");
        isText("the lower one of the same x", corners(with(1, 4, 3, 3, 1, -2, 3, 0), 0), "1,-2 3,0 3,3 1,4");
        isText("the less x, though y is greater", corners(with(0, 9, 1, -9, 2, 0), 0), "0,9 1,-9 2,0");
        String both = "-3,5 3,-5";
        isText("SEGMENT", corners(with(-3, 5, 3, -5), 0), both);
        isText("SEGMENT, the other end first", corners(with(3, -5, -3, 5), 0), both);
        isText("an upright SEGMENT", corners(with(2, 8, 2, -1), 0), "2,-1 2,8");
        isText("a level SEGMENT", corners(with(8, 2, -1, 2), 0), "-1,2 8,2");
    }

    private static void noneBetweenOthers() {
        says("none lies between two others");
        isText("on four SIDES", corners(with(0, 0, 2, 0, 1, 0, 2, 2, 2, 1, 0, 2, 1, 2, 0, 1), 0), "0,0 2,0 2,2 0,2");
        isText("on slanting SIDES", corners(with(0, 0, 2, 1, 4, 2, 3, 3, 2, 4, 1, 2), 0), "0,0 4,2 2,4");
        isText("between the last CORNER and the first", corners(with(0, 0, 4, 1, 2, 6, 1, 3), 0), "0,0 4,1 2,6");
        isText("a CORNER that comes to be between", corners(with(0, 0, 1, 0, 0, 3, 2, 0), 0), "0,0 2,0 0,3");
        isText("in a SEGMENT", corners(with(0, 0, 1, 1, 3, 3), 0), "0,0 3,3");
    }

    private static void areaOnlyOfPolygons() {
        says("AREA: twice that of the plane (0 but of a POLYGON).");
        for (int[] xy : emptyPointSegment()) {
            is("no POLYGON", with(xy).points(0, 0), 0);
        }
        is("the least", with(0, 0, 1, 0, 0, 1).points(0, 0), 1);
        is("the greatest", with(GRID).points(0, 0), 2 * 80 * 80);
    }

    private static void edgeOfASegment() {
        says("EDGE: how many POINTS lie on the edge (of a SEGMENT all)");
        is("SEGMENT of 5", with(-4, 2, 8, 6).points(0, 1), 5);
        is("SEGMENT of 2", with(0, 0, 40, 39).points(0, 1), 2);
        is("the longest SEGMENT", with(-40, -40, 40, 40).points(0, 1), 81);
        is("an upright SEGMENT", with(3, -40, 3, 40).points(0, 1), 81);
        is("POINT", with(7, -9).points(0, 1), 1);
        is("EMPTY", with().points(0, 1), 0);
        is("POLYGON without others than CORNERS", with(0, 0, 2, 1, 1, 2).points(0, 1), 3);
        is("the whole grid", with(GRID).points(0, 1), 320);
    }

    private static void insideNotOnTheEdge() {
        says("INSIDE: within it but not on its edge");
        is("none", with(0, 0, 2, 0, 0, 2).points(0, 2), 0);
        is("one", with(0, 0, 3, 0, 0, 3).points(0, 2), 1);
        is("all but the edge", with(GRID).points(0, 2), 79 * 79);
        for (int[] xy : emptyPointSegment()) {
            is("no POLYGON", with(xy).points(0, 2), 0);
        }
    }

    private static void allIsBoth() {
        says("ALL: both.");
        isCounted(with(), 0, 0, 0, 0);
        isCounted(with(7, -9), 0, 1, 0, 1);
        isCounted(with(-4, 2, 8, 6), 0, 5, 0, 5);
        isCounted(with(0, 0, 3, 0, 0, 3), 9, 9, 1, 10);
    }

    private static void theLastSide() {
        says("SIDES: as many as CORNERS, from each CORNER to the next one");
        GridPolygons g = with(-1, -2, 3, -1, 2, 4, -2, 1);
        isText("CORNERS", corners(g, 0), "-2,1 -1,-2 3,-1 2,4");
        is("the last SIDE goes back to the first CORNER, a", g.normal(0, 3, 0), -3);
        is("the last SIDE goes back to the first CORNER, b", g.normal(0, 3, 1), 4);
        is("there is no SIDE behind it", g.normal(0, 4, 0), NO);
        is("STEPS of the last SIDE", g.part(0, 3), 1);
        is("there are no STEPS behind it", g.part(0, 4), BAD);
    }

    private static void sidesOfASegment() {
        says("(of a POLYGON; a SEGMENT has one there, one back)");
        GridPolygons g = with(0, 0, 4, 2);
        is("there, but no POLYGON's", g.part(0, 0), NOT);
        is("back, but no POLYGON's", g.part(0, 1), NOT);
        is("no third one", g.part(0, 2), BAD);
    }

    private static void from0To1000Times() {
        says("n TIMES (n 0 .. 1000)");
        GridPolygons g = with(39, 39, 40, 39, 39, 40);
        is("1000 TIMES, ALL", g.times(0, 1000, 0), 501501);
        is("1000 TIMES, INSIDE", g.times(0, 1000, 1), 498501);
        is("1001 TIMES", g.times(0, 1001, 0), BAD);
        is("0 TIMES", g.times(0, 0, 0), 1);
        is("-1 TIMES", g.times(0, -1, 0), BAD);
        g = with(GRID);
        is("more than an int holds, ALL", g.times(0, 1000, 0), 80001L * 80001L);
        is("more than an int holds, INSIDE", g.times(0, 1000, 1), 79999L * 79999L);
        is("the longest SEGMENT", with(-40, -40, 40, 40).times(0, 1000, 0), 80001);
    }

    private static void emptyTimes() {
        says("(of an EMPTY one 0; 0 TIMES: one, none INSIDE)");
        for (int n = 0; n <= 1000; n += 250) {
            is("EMPTY, n = " + n, with().times(0, n, 0), 0);
        }
        is("POINT 0 TIMES", with(7, -9).times(0, 0, 0), 1);
        is("SEGMENT 0 TIMES", with(-4, 2, 8, 6).times(0, 0, 0), 1);
        is("POLYGON 0 TIMES", with(GRID).times(0, 0, 0), 1);
        is("POLYGON 0 TIMES, INSIDE", with(GRID).times(0, 0, 1), 0);
        is("POLYGON once, INSIDE", with(0, 0, 1, 0, 0, 1).times(0, 1, 1), 0);
    }

    private static void whatIsAWay() {
        says("A WAY (a, b), not both 0, without a common divisor, a above 0 (or 0, then b is 1).");
        GridPolygons g = with(0, 0, 5, 0, 0, 3);
        is("both 0", g.width(0, 0, 0), BAD);
        is("a common divisor 2", g.width(0, 2, 4), BAD);
        is("a common divisor 7, b below 0", g.width(0, 7, -14), BAD);
        is("b is 0, a is 2", g.width(0, 2, 0), BAD);
        is("b is 0, a is 1", g.width(0, 1, 0), 5);
        is("a below 0", g.width(0, -1, 0), BAD);
        is("a below 0, b not", g.width(0, -1, 2), BAD);
        is("a is 0, b is 1", g.width(0, 0, 1), 3);
        is("a is 0, b is -1", g.width(0, 0, -1), BAD);
        is("a is 0, b is 2", g.width(0, 0, 2), BAD);
        is("b below 0", g.width(0, 1, -1), 8);
        is("no common divisor but 1", g.width(0, 6, 35), 105);
    }

    private static void widthOverCorners() {
        says("WIDTH along it: the greatest less the least of a x and b y over CORNERS.");
        is("POINT", with(40, -40).width(0, 100, 99), 0);
        is("SEGMENT along itself", with(0, 0, 4, 2).width(0, 1, -2), 0);
        is("both below 0", with(-7, -7, -4, -5).width(0, 1, 0), 3);
        is("the widest", with(GRID).width(0, 100, 99), 80 * 199);
    }

    private static void leastOfAnyWay() {
        says("LEAST WIDTH of a POLYGON: the least along any WAY");
        for (int[] xy : emptyPointSegment()) {
            is("no POLYGON", with(xy).least(0, 0), NO);
        }
        GridPolygons g = with(-40, -40, 40, 38, -39, -39);
        is("a far WAY", g.least(0, 0), 1);
        is("its a", g.least(0, 1), 39);
        is("its b", g.least(0, 2), -40);
        is("the greatest", with(GRID).least(0, 0), 80);
        isLeast("(1, 1) only", with(0, 0, 1, 0, 5, -5, 6, -5), 1, 1, 1);
        isLeast("(0, 1) only", with(0, 0, 5, 0, 0, 1, 5, 1), 1, 0, 1);
        isLeast("(1, 0) only", with(0, 0, 0, 5, 1, 0, 1, 5), 1, 1, 0);
    }

    private static void isLeast(String of, GridPolygons g, int width, int a, int b) {
        is(of, g.least(0, 0), width);
        is(of + ", a", g.least(0, 1), a);
        is(of + ", b", g.least(0, 2), b);
    }

    private static void leastOfSeveralWays() {
        says("of several WAYS the least a, then the least b.");
        isLeast("(0, 1), (1, 0)", with(0, 0, 3, 0, 0, 3, 3, 3), 3, 0, 1);
        isLeast("(0, 1), (1, 0), (1, 1)", with(0, 0, 1, 0, 0, 1), 1, 0, 1);
        isLeast("(1, -3), (1, -2), (2, -5)", with(0, 0, -2, -1, 3, 1), 1, 1, -3);
        isLeast("(1, 2), (1, 3), (2, 5)", with(0, 0, 3, -1, -2, 1), 1, 1, 2);
        isLeast("(1, -1), (1, 0)", with(0, 0, 2, 1, 1, 2, 2, 4, 3, 4), 3, 1, -1);
    }

    // ---- 2

    private static void whatIsAMap() {
        says("a d less b c 1 or -1.");
        GridPolygons g = with(0, 0);
        int[][] maps = {{1, 0, 0, 1}, {0, 1, 1, 0}, {40, 39, 1, 1}, {-40, -39, 1, 1}, {1, 40, 0, 1}, {1, -40, 0, -1}};
        for (int[] m : maps) {
            is("a MAP " + m[0] + " " + m[1], g.map(0, 1, m[0], m[1], m[2], m[3], 5, 6), 1);
        }
        int[][] others = {{0, 0, 0, 0}, {1, 1, 1, 1}, {2, 0, 0, 1}, {1, 0, 0, -2}, {40, 40, -40, 40}, {3, 1, 1, 1}};
        for (int[] m : others) {
            is("no MAP " + m[0] + " " + m[1], g.map(0, 1, m[0], m[1], m[2], m[3], 5, 6), NOT);
        }
    }

    private static void turns() {
        says("of one to itself its TURNS");
        int[] hexagon = {1, 0, 1, 1, 0, 1, -1, 0, -1, -1, 0, -1};
        is("the most", with(hexagon).maps(0, 0), 12);
        is("only the one that changes nothing", with(0, 0, 2, 0, 3, 1, 1, 3).maps(0, 0), 1);
        GridPolygons g = with(0, 0, 1, 0, 0, 1);
        make(g, 1, 0, 0, 1, 0, 0, 1, 1, 1);
        is("not ALIKE", g.maps(0, 1), 0);
        make(g, 2, 0, 0, 40, 39, 39, 38);
        is("MAPS of great numbers", g.maps(2, 0), 6);
        make24(g, 3, -10, 5, 1);
        is("24 CORNERS", g.maps(3, 3), 8);
    }

    private static void alikePolygons() {
        says("ALIKE are two POLYGONS, if some MAP takes one to the other; how many MAPS do so");
        GridPolygons g = with(0, 0, 1, 0, 0, 1);
        make(g, 1, 0, 0, 2, 1, 1, 2);
        make(g, 2, 0, 0, 3, 0, 0, 1);
        make(g, 3, 0, 0, 1, 0, 0, 1, 1, 1);
        make(g, 4, 0, 0, 2, 0, 3, 1, 1, 3);
        g.map(4, 5, 0, 1, 1, 0, -7, 9);
        g.map(4, 6, 2, 1, 1, 1, 30, 30);
        int[] heap = {0, 1, 2, 3, 4, 4, 4};
        for (int shape = 0; shape < 7; shape++) {
            for (int other = 0; other < 7; other++) {
                is(shape + " and " + other, g.alike(shape, other), heap[shape] == heap[other] ? 1 : 0);
                is("MAPS from " + shape + " to " + other, g.maps(shape, other) > 0 ? 1 : 0, heap[shape] == heap[other] ? 1 : 0);
            }
        }
    }

    private static void alikeButNoPolygons() {
        says("(SEGMENTS: ALIKE with as many POINTS; POINTS always, EMPTY ones too; TURNS of these are not told.)");
        GridPolygons g = with(0, 0, 2, 4);
        make(g, 1, 40, 40, 40, 38);
        make(g, 2, 0, 0, 4, 1);
        make(g, 3, 9, 9);
        make(g, 4, -40, 0);
        make(g, 5, 0, 0, 2, 0, 0, 1);
        int[] heap = {1, 1, 2, 3, 3, 5, 6, 6};
        for (int shape = 0; shape < 8; shape++) {
            for (int other = 0; other < 8; other++) {
                is(shape + " and " + other, g.alike(shape, other), heap[shape] == heap[other] ? 1 : 0);
            }
            is("TURNS of " + shape, g.maps(shape, shape), shape == 5 ? 2 : NOT);
        }
        is("a POLYGON and a SEGMENT", g.maps(5, 0), NOT);
        is("a SEGMENT and a POLYGON", g.maps(0, 5), NOT);
    }

    private static void heapsOfAll() {
        says("HEAPS: how many unlike ones there are among all POLYGONS of the SHAPES.");
        GridPolygons g = new GridPolygons();
        is("no POLYGON, all EMPTY", g.heaps(), 0);
        for (int shape = 0; shape < 8; shape++) {
            make(g, shape, shape, 0, shape, shape);
        }
        is("no POLYGON", g.heaps(), 0);
        for (int shape = 0; shape < 8; shape++) {
            make(g, shape, 0, 0, 1, 0, 0, shape + 1);
            is("so many unlike", g.heaps(), shape + 1);
        }
        for (int shape = 1; shape < 8; shape++) {
            g.map(0, shape, 1, shape, 0, 1, shape, -shape);
            is("so many of eight like the first one", g.heaps(), 8 - shape);
        }
    }

    // ---- 3

    private static void sumOfAnEmptyOne() {
        says("(EMPTY, if one is)");
        GridPolygons g = with(30, 30, 40, 30, 30, 40);
        make(g, 3, 1, 1);
        is("the second one", g.sum(0, 1, 3), 0);
        is("it is EMPTY", g.corners(3), 0);
        make(g, 3, 1, 1);
        is("the first one", g.sum(1, 0, 3), 0);
        is("it is EMPTY", g.corners(3), 0);
        is("both", g.sum(1, 2, 3), 0);
        is("onto itself", g.sum(0, 1, 0), 0);
        is("it is EMPTY", g.corners(0), 0);
    }

    private static void mixedOfAnEmptyOne() {
        says("MIXED AREA: AREA of THE SUM, less those of both (0, if one is EMPTY).");
        GridPolygons g = with(GRID);
        make(g, 2, 3, 4);
        is("the second one", g.mixed(0, 1), 0);
        is("the first one", g.mixed(1, 0), 0);
        is("both", g.mixed(1, 1), 0);
        is("a POINT", g.mixed(0, 2), 0);
        is("THE SUM is far beyond the grid", g.mixed(0, 0), 25600);
    }

    private static void stepsOfASide() {
        says("each SIDE goes so many times (gcd of its differences) one step.");
        GridPolygons g = with(0, 0, 4, 0, 0, 6);
        is("one difference is 0; a slanting SIDE; taken in full", g.parts(0), 3);
        is("STEPS upright", g.part(0, 2), 3);
        is("STEPS level", g.part(0, 0), 2);
        is("STEPS on the slant", g.part(0, 1), 1);
        is("80 STEPS of each SIDE", with(GRID).parts(0), 81 * 81);
        is("one STEP of each SIDE", with(-40, -40, 40, 39, -39, -39).parts(0), 2);
        is("once more", g.parts(0), 3);
        is("once more", g.parts(0), 3);
    }

    private static void fromNoneToAllSteps() {
        says("of each SIDE some of its STEPS, from none to all");
        GridPolygons g = with(0, 0, 4, 0, 0, 1);
        is("all of a long SIDE", g.part(0, 0), 4);
        is("all in all", g.part(0, -1), 6);
        is("none, all", g.parts(0), 2);
        g = with(0, 0, 3, 0, 0, 2, 3, 2);
        is("none of a SIDE", g.part(0, 0), 0);
        is("one of a SIDE", g.part(0, 1), 1);
    }

    private static void emptyPartAndAll() {
        says("(of a POLYGON; the empty one and all count)");
        is("WHOLE", with(0, 0, 1, 0, 0, 1).parts(0), 2);
        is("one more", with(0, 0, 2, 0, 0, 2).parts(0), 3);
        for (int[] xy : emptyPointSegment()) {
            is("no POLYGON", with(xy).parts(0), NOT);
        }
    }

    private static void whole() {
        says("It is WHOLE, if these two are all.");
        GridPolygons g = with(0, 0, 2, 1, 1, 2);
        is("PARTS", g.parts(0), 2);
        is("LEAST PART is all of it", g.part(0, -1), 3);
        for (int i = 0; i < 3; i++) {
            is("SIDE " + i, g.part(0, i), 1);
        }
    }

    private static void isPart(GridPolygons g, int... want) {
        for (int i = -1; i + 1 < want.length; i++) {
            is("i = " + i, g.part(0, i), want[i + 1]);
        }
    }

    private static void fewestStepsAboveNone() {
        says("LEAST PART: the choice with the fewest STEPS, above none");
        isPart(with(0, 0, 5, 0, 0, 5), 3, 1, 1, 1);
        isPart(with(0, 0, 40, 0, 0, 1), 42, 40, 1, 1);
        isPart(with(GRID), 2, 0, 1, 0, 1);
        isPart(with(0, 0, 1, 0, 2, 1, 2, 2, 1, 2, 0, 1), 2, 0, 0, 1, 0, 0, 1);
    }

    private static void leastOfTheFirstSide() {
        says("of several the one that has the least of the first SIDE, then of the second");
        isPart(with(0, 0, 1, 0, 1, 1, 0, 1), 2, 0, 1, 0, 1);
        isPart(with(1, 0, 1, 1, 0, 1, -1, 0, -1, -1, 0, -1), 2, 0, 0, 1, 0, 0, 1);
        isPart(with(0, 0, 6, -2, 5, 0, 3, 1, 2, 1), 3, 1, 0, 1, 1, 0);
        GridPolygons g = with(0, 0, 1, 0, 0, 1);
        is("a WHOLE one", g.part(0, -1), 3);
        make24(g, 0, -10, 5, 1);
        is("24 SIDES, each with one against it", g.part(0, -1), 2);
        for (int i = 0; i < 24; i++) {
            is("SIDE " + i + " of 24", g.part(0, i), i % 12 == 11 ? 1 : 0);
        }
    }

    // ---- 4

    private static void roundOnlyInside() {
        says("A POLYGON is ROUND, if (0, 0) is INSIDE it.");
        is("INSIDE", with(-1, -1, 1, 0, 0, 1).normal(0, 0, 2), 1);
        is("on the edge", with(-1, 0, 1, 0, 0, 1).normal(0, 0, 2), NO);
        is("a CORNER", with(0, 0, 1, 0, 0, 1).normal(0, 0, 2), NO);
        is("outside", with(1, 1, 2, 1, 1, 2).normal(0, 0, 2), NO);
        is("in the middle of a SEGMENT", with(-1, 0, 1, 0).normal(0, 0, 2), NO);
        is("a POINT", with(0, 0).normal(0, 0, 2), NO);
        is("EMPTY", with().normal(0, 0, 2), NO);
    }

    private static void normalWithItsSign() {
        says("the WAY at a right angle to it that is greater on it than at (0, 0), with its sign");
        GridPolygons g = with(-1, -2, 3, -2, 3, 4, -1, 4);
        int[][] want = {{0, -1, 2}, {1, 0, 3}, {0, 1, 4}, {-1, 0, 1}};
        for (int i = 0; i < 4; i++) {
            for (int what = 0; what < 3; what++) {
                is("SIDE " + i + ", what = " + what, g.normal(0, i, what), want[i][what]);
            }
        }
        g = with(-40, -40, 40, -39, 0, 40);
        is("beyond what a POINT has, a", g.normal(0, 0, 0), 1);
        is("beyond what a POINT has, b", g.normal(0, 0, 1), -80);
        is("its FAR", g.normal(0, 0, 2), 3160);
    }

    private static void farIsOneForAll() {
        says("REFLEXIVE: ROUND, and FAR is 1 for all SIDES.");
        is("1 for all", with(1, 0, 0, 1, -1, -1).reflexive(0), 1);
        is("2 for the first SIDE", with(-1, -2, 1, -2, 1, 1, -1, 1).reflexive(0), 0);
        is("2 for the last SIDE", with(-2, -1, 1, -1, 1, 1, -2, 1).reflexive(0), 0);
        is("2 for all", with(-2, -2, 2, -2, -2, 2, 2, 2).reflexive(0), 0);
        is("not ROUND", with(1, 0, 0, 1, 0, 0).reflexive(0), 0);
        for (int[] xy : emptyPointSegment()) {
            is("no POLYGON", with(xy).reflexive(0), 0);
        }
    }

    private static void dualUpToTheGridsEnd() {
        says("Its DUAL: the hull of all NORMALS.");
        GridPolygons g = with(1, 0, 0, 1, -1, 0, 0, -1);
        g.map(0, 1, 1, 39, 0, 1, 0, 0);
        is("up to 40", g.dual(1, 2), 4);
        isText("its CORNERS", corners(g, 2), "-1,38 1,-40 1,-38 -1,40");
        g.map(0, 1, 1, -39, 0, 1, 0, 0);
        is("down to -40", g.dual(1, 2), 4);
        isText("its CORNERS", corners(g, 2), "-1,-40 1,38 1,40 -1,-38");
        g.map(0, 1, 1, 40, 0, 1, 0, 0);
        is("beyond, b", g.dual(1, 2), FULL);
        g.map(0, 1, 1, 0, 40, 1, 0, 0);
        is("beyond, a", g.dual(1, 2), FULL);
        g.map(0, 1, 1, -40, 0, -1, 0, 0);
        is("beyond on the other side", g.dual(1, 2), FULL);
    }

    private static void anglesBelowAHalf() {
        says("the turn from u to v anticlockwise, below a half, above none");
        GridPolygons g = new GridPolygons();
        is("u is (0, 0)", g.between(0, 0, 3, 4), NOT);
        is("v is (0, 0)", g.between(3, 4, 0, 0), NOT);
        is("both are (0, 0)", g.between(0, 0, 0, 0), NOT);
        is("none", g.between(3, 4, 3, 4), NOT);
        is("none, on one ray", g.between(1, -1, 40, -40), NOT);
        is("hardly any", g.between(40, 39, 39, 38), NOT);
        is("hardly any, anticlockwise", g.between(39, 38, 40, 39), 2);
        is("a half", g.between(3, 4, -3, -4), NOT);
        is("a half, not as far", g.between(40, 0, -1, 0), NOT);
        is("hardly below a half", g.between(40, 39, -39, -38), 2);
        is("hardly above a half", g.between(-39, -38, 40, 39), NOT);
        is("three quarters", g.between(1, 0, 0, -1), NOT);
        is("each quarter", g.between(0, -1, 1, 0), 2);
    }

    private static void raysBelongToIt() {
        says("(rays belong to it)");
        GridPolygons g = new GridPolygons();
        is("LEAST POINTS", g.between(40, 0, 0, 40), 2);
        is("the first one is on u, x", g.ray(40, 0, 0, 40, 0, 0), 1);
        is("the first one is on u, y", g.ray(40, 0, 0, 40, 0, 1), 0);
        is("the last one is on v, x", g.ray(40, 0, 0, 40, 1, 0), 0);
        is("the last one is on v, y", g.ray(40, 0, 0, 40, 1, 1), 1);
        is("none behind it", g.ray(40, 0, 0, 40, 2, 0), NO);
        is("the first one on the ray through (9, 6), x", g.ray(9, 6, -14, 21, 0, 0), 3);
        is("the first one on the ray through (9, 6), y", g.ray(9, 6, -14, 21, 0, 1), 2);
        is("one between", g.ray(9, 6, -14, 21, 1, 1), 1);
        is("LEAST POINTS", g.between(9, 6, -14, 21), 5);
        is("the first one on the ray through (-14, 21), x", g.ray(9, 6, -14, 21, 4, 0), -2);
        is("the first one on the ray through (-14, 21), y", g.ray(9, 6, -14, 21, 4, 1), 3);
        is("up from (0, -1)", g.between(0, -5, 3, 1), 3);
        is("up from (0, -1), the one between", g.ray(0, -5, 3, 1, 1, 1), 0);
        is("down from (0, 1)", g.between(0, 1, -3, -1), 3);
    }

    private static void alsoOnTheEdge() {
        says("those corners and POINTS on the edge of the hull of all POINTS but (0, 0) in that angle");
        GridPolygons g = new GridPolygons();
        is("in a row", g.between(1, -40, 1, 40), 81);
        for (int i = 0; i < 81; i++) {
            is("x of " + i, g.ray(1, -40, 1, 40, i, 0), 1);
            is("y of " + i, g.ray(1, -40, 1, 40, i, 1), i - 40);
        }
        is("none behind the last one", g.ray(1, -40, 1, 40, 81, 0), NO);
    }

    private static void bendsBetween() {
        says("BEND of one that is not the first, not the last: by how much of it the two beside it, added, are.");
        GridPolygons g = new GridPolygons();
        is("the greatest", g.ray(40, -1, 40, 1, 1, 2), 80);
        is("the first", g.ray(40, -1, 40, 1, 0, 2), NO);
        is("the last", g.ray(40, -1, 40, 1, 2, 2), NO);
        is("the least", g.ray(1, -40, 1, 40, 1, 2), 2);
        is("the last but one", g.ray(1, -40, 1, 40, 79, 2), 2);
        is("of two the first", g.ray(1, 0, 0, 1, 0, 2), NO);
        is("of two the last", g.ray(1, 0, 0, 1, 1, 2), NO);
    }

    // ---- 5

    private static void atMost12Points() {
        says("A CUT of a POLYGON with 12 POINTS at most (ALL)");
        GridPolygons g = with(0, 0, 5, 0, 0, 1, 5, 1);
        is("12 POINTS", g.cuts(0, 0), 252);
        g.add(0, 6, 0);
        for (int what = 0; what < 4; what++) {
            is("13 POINTS, what = " + what, g.cuts(0, what), NOT);
        }
        is("13 POINTS, all INSIDE but 3", with(0, 0, 20, 1, 1, 20).cuts(0, 3), NOT);
        is("3 POINTS", with(0, 0, 1, 0, 0, 1).cuts(0, 0), 1);
        for (int[] xy : emptyPointSegment()) {
            is("no POLYGON", with(xy).cuts(0, 0), NOT);
        }
    }

    private static String cut(GridPolygons g, int i) {
        StringBuilder s = new StringBuilder();
        for (int what = 0; what < g.cuts(0, 2); what++) {
            s.append(what == 0 ? "" : " ").append(g.cut(0, i, what));
        }
        return s.toString();
    }

    private static void noOtherPointOnThem() {
        says("segments between POINTS of it, with no other POINT on them, that do not cross, as many as there can be");
        GridPolygons g = with(0, 0, 2, 0, 0, 2);
        is("six on the edge, three within", g.cuts(0, 2), 9);
        isText("none through another POINT", cut(g, 0), "1 3 4 18 20 36 52 53 69");
        is("none behind the last", g.cut(0, 0, 9), BAD);
        is("the fewest", with(0, 0, 1, 0, 0, 1).cuts(0, 2), 3);
        is("with a POINT INSIDE", with(0, 0, 2, 1, 1, 2).cuts(0, 2), 6);
    }

    private static void itsEdgesAllAreInIt() {
        says("(its edge's all are in it)");
        GridPolygons g = with(0, 0, 2, 0, 0, 2);
        int[] edge = {1, 3, 18, 36, 53, 69};
        is("CUTS", g.cuts(0, 0), 4);
        for (int i = 0; i < 4; i++) {
            for (int segment : edge) {
                is(segment + " is in CUT " + i, (" " + cut(g, i) + " ").contains(" " + segment + " ") ? 1 : 0, 1);
            }
        }
    }

    private static void trianglesOfTheArea1() {
        says("Its triangles have the AREA 1 each.");
        is("one", with(0, 0, 1, 0, 0, 1).cuts(0, 3), 1);
        is("three round a POINT", with(0, 0, 2, 1, 1, 2).cuts(0, 3), 3);
        is("as many as 12 POINTS make", with(CUTS_1564).cuts(0, 3), with(CUTS_1564).points(0, 0));
    }

    private static void noCornerOfAHalfTurn() {
        says("whose two triangles make a four-sided figure without a corner that is a half turn or more");
        GridPolygons g = with(0, 0, 2, 0, 0, 1);
        is("a half turn, CUTS", g.cuts(0, 0), 1);
        is("a half turn, FLIPS", g.flips(0, 0), 0);
        g = with(0, 0, 2, 1, 1, 2);
        is("more, CUTS", g.cuts(0, 0), 1);
        is("more, FLIPS", g.flips(0, 0), 0);
        g = with(0, 0, 1, 0, 0, 1, 1, 1);
        is("less, CUTS", g.cuts(0, 0), 2);
        is("less, FLIPS", g.flips(0, 0), 1);
        g = with(0, 0, 1, 0, 0, 1);
        is("only the edge, CUTS", g.cuts(0, 0), 1);
        is("only the edge, FLIPS", g.flips(0, 0), 0);
    }

    private static void firstCut() {
        says("one by one each is taken that crosses none taken before.");
        isText("a square", cut(with(0, 0, 1, 0, 0, 1, 1, 1), 0), "1 2 3 19 35");
        isText("POINTS by x, then y", cut(with(0, 0, 2, 0, 0, 1, 2, 1), 0), "1 2 3 5 19 36 37 53 69");
        isText("a triangle", cut(with(0, 0, 1, 0, 0, 1), 0), "1 2 18");
    }

    private static void spentAbove1500() {
        says("HOW MANY CUTS there are: SPENT above 1500.");
        GridPolygons g = with(CUTS_1371);
        is("below", g.cuts(0, 0), 1371);
        is("the last one's FLIPS back", g.flips(0, 1370) > 0 ? 1 : 0, 1);
        is("none behind the last", g.flips(0, 1371), BAD);
        make(g, 0, CUTS_1564);
        is("above, HOW MANY", g.cuts(0, 0), SPENT);
        is("above, FARTHEST", g.cuts(0, 1), SPENT);
        is("above, FIRST CUT", g.cut(0, 0, 0), SPENT);
        is("above, HOW FAR", g.cut(0, 0, -1), SPENT);
        is("above, FLIPS", g.flips(0, 0), SPENT);
        is("above, segments in each", g.cuts(0, 2), 25);
        is("above, triangles", g.cuts(0, 3), 14);
        make(g, 0, CUTS_1371);
        is("below again", g.cuts(0, 0), 1371);
    }

    private static void howFarOfTheFirst() {
        says("HOW FAR: the fewest FLIPS from FIRST CUT to another one; FARTHEST: the most.");
        GridPolygons g = with(0, 0, 1, 0, 0, 1);
        is("of but one CUT", g.cuts(0, 1), 0);
        is("FIRST CUT itself", g.cut(0, 0, -1), 0);
        g = with(0, 0, 5, 0, 0, 1, 5, 1);
        is("FARTHEST", g.cuts(0, 1), 25);
        is("the last one", g.cut(0, 251, -1), 25);
        is("the second one", g.cut(0, 1, -1), 1);
    }

    private static void flipsByTheSegmentThatGivesWay() {
        says("then of each in order all FLIPS by the number of the segment that gives way.");
        GridPolygons g = with(0, 0, 2, 0, 0, 1, 2, 1);
        String[] cuts = {
            "1 2 3 5 19 36 37 53 69", "1 2 3 19 35 36 37 53 69", "1 2 18 19 35 36 37 53 69",
            "1 2 3 19 35 36 52 53 69", "1 2 18 19 35 36 52 53 69", "1 2 18 19 20 36 52 53 69"
        };
        int[] flips = {1, 3, 2, 2, 3, 1};
        for (int i = 0; i < 6; i++) {
            isText("CUT " + i, cut(g, i), cuts[i]);
            is("FLIPS of CUT " + i, g.flips(0, i), flips[i]);
        }
        is("no seventh one", g.flips(0, 6), BAD);
    }

    private static void segmentsRising() {
        says("A CUT is told as its segments' numbers, rising; CUTS are numbered as they come: FIRST CUT is 0");
        GridPolygons g = with(0, 0, 5, 0, 0, 1, 5, 1);
        for (int i = 0; i < 252; i++) {
            int last = -1;
            for (int what = 0; what < 21; what++) {
                int segment = g.cut(0, i, what);
                is("rising", segment > last ? 1 : 0, 1);
                last = segment;
            }
            is("the greatest number", last, 171);
        }
        is("no segment behind the last", g.cut(0, 251, 21), BAD);
        is("no CUT behind the last", g.cut(0, 252, 0), BAD);
        is("no CUT ahead of FIRST CUT", g.cut(0, -1, 0), BAD);
    }

    // ---- 6

    private static void heightsUpTo1000() {
        says("HEIGHTS (-1000 .. 1000; 0 at first)");
        GridPolygons g = with(0, 0, 1, 0, 0, 1);
        is("0 at first", g.height(0, 0, 1000), 0);
        is("1000", g.height(0, 0, -1000), 1000);
        is("-1000", g.height(0, 0, 7), -1000);
        int[] beyond = {1001, -1001, LOW, HIGH};
        for (int v : beyond) {
            is("" + v, g.height(0, 0, v), NO);
        }
        is("it is as it was", g.height(0, 0, 0), 7);
    }

    private static void atMost40Points() {
        says("of the POINTS of a POLYGON (ALL 40 at most; by x, then y;");
        GridPolygons g = with(0, 0, 7, 0, 0, 4, 7, 4);
        is("40 POINTS, the first", g.height(0, 0, 1), 0);
        is("40 POINTS, the last", g.height(0, 39, 2), 0);
        is("40 POINTS, none behind", g.height(0, 40, 2), NO);
        is("40 POINTS, PIECES", g.pieces(0, 1), 40);
        is("the least POINT of all", g.height(0, 0, 0), 1);
        is("the greatest POINT of all", g.height(0, 39, 0), 2);
        g.add(0, 8, 0);
        is("41 POINTS, the first", g.height(0, 0, 1), NO);
        is("41 POINTS, the last", g.height(0, 40, 1), NO);
        is("41 POINTS, PIECES", g.pieces(0, 0), NOT);
        is("41 POINTS, a PIECE", g.piece(0, 0, -1), NOT);
        is("3 POINTS", with(0, 0, 1, 0, 0, 1).pieces(0, 0), 1);
        for (int[] xy : emptyPointSegment()) {
            is("no POLYGON, height", with(xy).height(0, 0, 0), NO);
            is("no POLYGON, pieces", with(xy).pieces(0, 0), NOT);
        }
    }

    /** SHAPE 0 is a REFLEXIVE triangle that is its own DUAL's DUAL, its last HEIGHT is 9; SHAPE 1 is as large. */
    private static GridPolygons lifted() {
        GridPolygons g = with(1, 0, 0, 1, -1, -1);
        make(g, 1, 1, 0, 0, 1, -1, -1);
        make(g, 2, 0, 0);
        g.dual(0, 3);
        g.height(0, 3, 9);
        g.height(1, 3, 8);
        return g;
    }

    private static void isAnew(String call, GridPolygons g, int answer) {
        is(call, answer, 3);
        is("HEIGHT after " + call, g.height(0, 3, 0), 0);
        is("HEIGHT of another SHAPE after " + call, g.height(1, 3, 0), 8);
    }

    private static void heightsAnew() {
        says("all 0 again as a call makes the SHAPE anew, be it the same");
        GridPolygons g = lifted();
        isAnew("add of a CORNER", g, g.add(0, 1, 0));
        g = lifted();
        isAnew("add of what is INSIDE", g, g.add(0, 0, 0));
        g = lifted();
        isAnew("map to itself", g, g.map(0, 0, 1, 0, 0, 1, 0, 0));
        g = lifted();
        isAnew("map of another one", g, g.map(1, 0, 1, 0, 0, 1, 0, 0));
        g = lifted();
        isAnew("sum with (0, 0)", g, g.sum(0, 2, 0));
        g = lifted();
        isAnew("dual of its DUAL", g, g.dual(3, 0));
        g = lifted();
        is("clear", g.clear(0), 3);
        make(g, 0, 1, 0, 0, 1, -1, -1);
        isAnew("clear and add", g, g.corners(0));
        isText("it is the same", corners(g, 0), corners(g, 1));
    }

    private static void isPiece(GridPolygons g, int piece, int... want) {
        is("how many POINTS PIECE " + piece + " has", g.piece(0, piece, -1), want.length);
        for (int i = 0; i < want.length; i++) {
            is("PIECE " + piece + ", i = " + i, g.piece(0, piece, i), want[i]);
        }
        is("PIECE " + piece + ", behind its last", g.piece(0, piece, want.length), BAD);
    }

    private static void piecesFromBelow() {
        says("A PIECE is a greatest set of POINTS that lie in one plane, none below it, not all in a row.");
        GridPolygons g = with(0, 0, 2, 0, 0, 1);
        is("flat", g.pieces(0, 0), 1);
        isPiece(g, 0, 0, 1, 2, 3);
        g.height(0, 2, -1);
        is("of a row the middle is down", g.pieces(0, 0), 2);
        isPiece(g, 0, 0, 1, 2);
        isPiece(g, 1, 1, 2, 3);
        g.height(0, 2, 1);
        is("of a row the middle is up", g.pieces(0, 0), 1);
        isPiece(g, 0, 0, 1, 3);
        g = with(0, 0, 2, 0, 0, 2, 2, 2);
        g.height(0, 4, 1);
        is("a plane with one above it", g.pieces(0, 0), 1);
        isPiece(g, 0, 0, 1, 2, 3, 5, 6, 7, 8);
        g.height(0, 4, -1);
        is("a plane with one below it", g.pieces(0, 0), 4);
        g.height(0, 4, -1000);
        g.height(0, 0, 1000);
        is("as far as HEIGHTS go", g.pieces(0, 0), 5);
        isPiece(g, 0, 0, 1, 3, 4);
    }

    private static void manyPieces() {
        says("How many PIECES there are; how many POINTS each has");
        GridPolygons g = with(0, 0, 7, 0, 0, 4, 7, 4);
        is("one of 40 POINTS", g.pieces(0, 0), 1);
        is("its POINTS", g.piece(0, 0, -1), 40);
        is("its last one", g.piece(0, 0, 39), 39);
        is("none behind it", g.piece(0, 0, 40), BAD);
        for (int i = 0; i < 40; i++) {
            int x = g.point(0, i, 0);
            int y = g.point(0, i, 1);
            g.height(0, i, 5 * x * x + 7 * y * y + x * y - 300);
        }
        is("as many as 40 POINTS make of that AREA", g.pieces(0, 0), 56);
        is("all of the AREA 1", g.pieces(0, 2), 56);
        is("three POINTS each", g.piece(0, 55, -1), 3);
        is("none behind the last", g.piece(0, 56, -1), BAD);
        is("none ahead of the first", g.piece(0, -1, -1), BAD);
        for (int i = 0; i < 40; i++) {
            g.height(0, i, -1000);
        }
        is("one again", g.pieces(0, 0), 1);
        is("of no AREA 1", g.pieces(0, 2), 0);
        is("none behind it", g.piece(0, 1, -1), BAD);
        g = with(0, 0, 2, 1, 1, 2);
        g.height(0, 1, 1);
        is("three POINTS", g.piece(0, 0, -1), 3);
        is("but not of the AREA 1", g.pieces(0, 2), 0);
    }

    private static void leastPointOfOnlyOne() {
        says("they are numbered by their POINTS (the one with the least POINT that only one of two has first)");
        GridPolygons g = with(0, 0, 1, 0, 0, 1, 1, 1);
        g.height(0, 0, 1);
        isPiece(g, 0, 0, 1, 2);
        isPiece(g, 1, 1, 2, 3);
        g.height(0, 0, -1);
        isPiece(g, 0, 0, 1, 3);
        isPiece(g, 1, 0, 2, 3);
        make(g, 0, 0, 0, 2, 0, 0, 2, 2, 2);
        g.height(0, 4, -1);
        isPiece(g, 0, 0, 1, 2, 4);
        isPiece(g, 1, 0, 3, 4, 6);
        isPiece(g, 2, 2, 4, 5, 8);
        isPiece(g, 3, 4, 6, 7, 8);
    }

    private static void seenPoints() {
        says("SEEN are POINTS that are in a PIECE.");
        GridPolygons g = with(0, 0, 2, 0, 0, 2, 2, 2);
        is("all", g.pieces(0, 1), 9);
        g.height(0, 4, 1000);
        is("all but the middle", g.pieces(0, 1), 8);
        for (int i = 1; i < 9; i += 2) {
            g.height(0, i, 1);
        }
        is("only CORNERS", g.pieces(0, 1), 4);
        g.height(0, 8, 1000);
        is("a CORNER up, and so its neighbours", g.pieces(0, 1), 6);
        g.add(0, 0, 0);
        g.height(0, 4, 1000);
        is("all but the middle again", g.pieces(0, 1), 8);
        is("3 of 3", with(0, 0, 1, 0, 0, 1).pieces(0, 1), 3);
    }

    // ---- refused

    private static void badAheadOfNot() {
        says("BAD (a number is not as told, or there is no such thing), NOT (it is not of that sort, as told)");
        GridPolygons g = with(GRID);
        is("times", g.times(1, 1001, 1), BAD);
        is("width", g.width(1, 2, 0), BAD);
        is("map", g.map(0, 1, 0, 0, 0, 0, 0, 41), BAD);
        is("map to none", g.map(0, 8, 0, 0, 0, 0, 0, 0), BAD);
        is("maps", g.maps(1, 8), BAD);
        is("part", g.part(1, -2), BAD);
        is("dual", g.dual(1, 8), BAD);
        is("between", g.between(0, 0, 0, 41), BAD);
        is("cuts", g.cuts(0, 4), BAD);
        is("cut", g.cut(0, -1, 0), BAD);
        is("cut, what", g.cut(0, 0, -2), BAD);
        is("flips", g.flips(0, -1), BAD);
        is("pieces", g.pieces(0, 3), BAD);
        is("piece", g.piece(0, -1, -1), BAD);
        is("piece, i", g.piece(0, 0, -2), BAD);
    }

    private static void badAndNotAheadOfSpent() {
        says("NOT (it is not of that sort, as told), SPENT");
        GridPolygons g = with(CUTS_1564);
        is("BAD, cuts", g.cuts(0, 4), BAD);
        is("BAD, cut", g.cut(0, -1, 0), BAD);
        is("BAD, cut, what = -2", g.cut(0, 0, -2), BAD);
        is("BAD, cut, no such segment", g.cut(0, 0, 25), BAD);
        is("BAD, flips", g.flips(0, -1), BAD);
        g.add(0, 4, 4);
        is("NOT, cuts", g.cuts(0, 0), NOT);
        is("NOT, cut", g.cut(0, 0, 0), NOT);
        is("NOT, flips", g.flips(0, 0), NOT);
    }

    private static void badAndNotAheadOfFull() {
        says("SPENT, FULL.");
        GridPolygons g = new GridPolygons();
        make24(g, 0, -30, 0, 3);
        is("BAD, add", g.add(0, 41, 41), BAD);
        is("FULL, add", g.add(0, 1, -23), FULL);
        is("BAD, map", g.map(0, 1, 1, 0, 0, 1, 41, 0), BAD);
        is("NOT, map", g.map(0, 1, 2, 0, 0, 1, 40, 0), NOT);
        is("FULL, map", g.map(0, 1, 1, 0, 0, 1, 40, 0), FULL);
        is("BAD, sum", g.sum(0, 0, 8), BAD);
        is("FULL, sum", g.sum(0, 0, 1), FULL);
        make(g, 2, -40, -40, 40, -39, 0, 40);
        is("NOT, dual, NORMALS beyond the grid", g.dual(2, 1), NOT);
        make(g, 2, 1, 0, 40, 1, -1, 0, -40, -1);
        is("BAD, dual", g.dual(2, 8), BAD);
        is("FULL, dual", g.dual(2, 1), FULL);
    }

    private static void nothingChanges() {
        says("Refused, and nothing changes");
        GridPolygons g = lifted();
        make24(g, 4, -30, 0, 3);
        make(g, 5, 1, 0, 40, 1, -1, 0, -40, -1);
        g.height(5, 1, 6);
        String before = told(g);
        is("add, BAD", g.add(0, 41, 0), BAD);
        is("add, FULL", g.add(4, 1, -23), FULL);
        is("map, BAD", g.map(4, 0, 1, 0, 0, 1, 0, 41), BAD);
        is("map, NOT", g.map(4, 0, 1, 1, 1, 1, 0, 0), NOT);
        is("map, FULL for the last CORNER", g.map(0, 1, 1, 0, 0, 1, 0, 40), FULL);
        is("map to itself, FULL", g.map(5, 5, 1, 0, 0, 1, 1, 0), FULL);
        is("sum, FULL", g.sum(5, 5, 0), FULL);
        is("sum to itself, FULL", g.sum(4, 4, 4), FULL);
        is("dual, NOT", g.dual(4, 0), NOT);
        is("dual, FULL", g.dual(5, 0), FULL);
        is("dual to itself, FULL", g.dual(5, 5), FULL);
        is("height, NO", g.height(0, 3, 1001), NO);
        is("clear, BAD", g.clear(8), BAD);
        isText("all CORNERS and HEIGHTS", told(g), before);
    }

    private static void whatNoneIs() {
        says("`NO = -1000000`: What none is, where a number may be below 0.");
        is("NO", GridPolygons.NO, -1000000);
        GridPolygons g = with(-1, -1);
        is("a CORNER's x that is -1", g.corner(0, 0, 0), -1);
        is("a POINT's y that is -1", g.point(0, 0, 1), -1);
        is("no CORNER", g.corner(0, 1, 0), NO);
        is("no POINT", g.point(0, 1, 1), NO);
        make(g, 0, 0, 0, 1, 0, 0, 1);
        g.height(0, 0, -1);
        is("a HEIGHT that is -1", g.height(0, 0, -2), -1);
        is("a HEIGHT that is -2", g.height(0, 0, 0), -2);
    }

    private static void testShapes() {
        pointsOfTheGrid();
        eightShapes();
        emptyAtFirst();
        fourSorts();
        atMost24Corners();
        fromTheLeastOne();
        noneBetweenOthers();
        areaOnlyOfPolygons();
        edgeOfASegment();
        insideNotOnTheEdge();
        allIsBoth();
        theLastSide();
        sidesOfASegment();
        from0To1000Times();
        emptyTimes();
        whatIsAWay();
        widthOverCorners();
        leastOfAnyWay();
        leastOfSeveralWays();
    }

    private static void testMapsAndSums() {
        whatIsAMap();
        turns();
        alikePolygons();
        alikeButNoPolygons();
        heapsOfAll();
        sumOfAnEmptyOne();
        mixedOfAnEmptyOne();
        stepsOfASide();
        fromNoneToAllSteps();
        emptyPartAndAll();
        whole();
        fewestStepsAboveNone();
        leastOfTheFirstSide();
    }

    private static void testDualsAndRays() {
        roundOnlyInside();
        normalWithItsSign();
        farIsOneForAll();
        dualUpToTheGridsEnd();
        anglesBelowAHalf();
        raysBelongToIt();
        alsoOnTheEdge();
        bendsBetween();
    }

    private static void testCuts() {
        atMost12Points();
        noOtherPointOnThem();
        itsEdgesAllAreInIt();
        trianglesOfTheArea1();
        noCornerOfAHalfTurn();
        firstCut();
        spentAbove1500();
        howFarOfTheFirst();
        segmentsRising();
        flipsByTheSegmentThatGivesWay();
    }

    private static void testHeights() {
        heightsUpTo1000();
        atMost40Points();
        heightsAnew();
        piecesFromBelow();
        manyPieces();
        leastPointOfOnlyOne();
        seenPoints();
    }

    public static void main(String[] args) {
        atMost512Calls();
        testShapes();
        testMapsAndSums();
        testDualsAndRays();
        testCuts();
        testHeights();
        badAheadOfNot();
        badAndNotAheadOfSpent();
        badAndNotAheadOfFull();
        nothingChanges();
        whatNoneIs();
        end("all sentences of the Terms that name a boundary hold");
    }
}
