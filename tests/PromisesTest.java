// One method for each promise of the document: ordinary inputs, the edges that it names, wrong inputs.
public final class PromisesTest extends Checks {
    private static void theConstants() {
        due("BAD", GridPolygons.BAD, -1);
        due("NOT", GridPolygons.NOT, -2);
        due("FULL", GridPolygons.FULL, -3);
        due("SPENT", GridPolygons.SPENT, -5);
        due("NONE", GridPolygons.NONE, -9);
        due("NO", GridPolygons.NO, -1000000);
    }

    private static void p01New() {
        GridPolygons g = new GridPolygons();
        for (int shape = 0; shape < 8; shape++) {
            due("1: corners of a new SHAPE", g.corners(shape), 0);
            due("1: ALL of a new SHAPE", g.points(shape, 3), 0);
        }
        g.add(0, 1, 2);
        due("1: a second object is EMPTY too", new GridPolygons().corners(0), 0);
    }

    private static void p02Clear() {
        GridPolygons g = with(0, 0, 3, 0, 0, 3);
        make(g, 7, 1, 1);
        due("2: clear of a POLYGON", g.clear(0), 3);
        due("2: it is EMPTY then", g.corners(0), 0);
        due("2: clear of an EMPTY one", g.clear(0), 0);
        due("2: others stay", g.corners(7), 1);
        due("2: clear of a POINT", g.clear(7), 1);
        make(g, 7, 1, 1, 5, 5);
        due("2: clear of a SEGMENT", g.clear(7), 2);
        due("2: -1", g.clear(-1), BAD);
        due("2: 8", g.clear(8), BAD);
        due("2: least int", g.clear(LOW), BAD);
        make(g, 0, 0, 0, 1, 0, 0, 1);
        g.height(0, 0, 9);
        g.clear(0);
        make(g, 0, 0, 0, 1, 0, 0, 1);
        due("2: HEIGHTS are 0 again", g.height(0, 0, 0), 0);
    }

    private static void p03Add() {
        GridPolygons g = new GridPolygons();
        due("3: POINT", g.add(0, 2, 2), 1);
        due("3: the same POINT", g.add(0, 2, 2), 1);
        due("3: SEGMENT", g.add(0, 6, 4), 2);
        due("3: a POINT on it", g.add(0, 4, 3), 2);
        due("3: a longer one", g.add(0, 0, 1), 2);
        dueText("3: its CORNERS", corners(g, 0), "0,1 6,4");
        due("3: POLYGON", g.add(0, 6, 1), 3);
        due("3: a POINT in it", g.add(0, 5, 2), 3);
        due("3: on its edge", g.add(0, 3, 1), 3);
        due("3: a CORNER more", g.add(0, 0, 4), 4);
        due("3: a CORNER that hides others", g.add(0, -40, 40), 4);
        dueText("3: its CORNERS", corners(g, 0), "-40,40 0,1 6,1 6,4");
        due("3: edges of the grid", g.add(0, 40, -40), 3);
        dueText("3: its CORNERS", corners(g, 0), "-40,40 40,-40 6,4");
        due("3: x too great", g.add(0, 41, 0), BAD);
        due("3: x too small", g.add(0, -41, 0), BAD);
        due("3: y too great", g.add(0, 0, 41), BAD);
        due("3: y too small", g.add(0, 0, -41), BAD);
        due("3: least int", g.add(0, LOW, LOW), BAD);
        due("3: shape 8", g.add(8, 0, 0), BAD);
        due("3: shape -1", g.add(-1, 0, 0), BAD);
        due("3: nothing has changed", g.corners(0), 3);
        make(g, 1, 3, 5, 3, -2, 3, 0);
        dueText("3: an upright SEGMENT", corners(g, 1), "3,-2 3,5");
        make24(g, 2, -30, 0, 3);
        due("3: 24 CORNERS", g.corners(2), 24);
        due("3: a POINT just beyond a SIDE", g.add(2, 1, -23), FULL);
        due("3: nothing has changed", g.corners(2), 24);
        due("3: nothing has changed", g.where(2, 1, -23), 0);
        due("3: a POINT on that SIDE", g.add(2, 0, -23), 24);
        due("3: a POINT that hides two CORNERS", g.add(2, -4, -25), 23);
        make(g, 3, 0, 0, 1, 0, 0, 1);
        g.height(3, 1, 7);
        g.add(3, 0, 0);
        due("3: HEIGHTS are 0 again though it is the same", g.height(3, 1, 0), 0);
        g.height(3, 1, 7);
        g.add(3, 0, 41);
        due("3: but not if it is refused", g.height(3, 1, 0), 7);
    }

    private static void p04Corners() {
        GridPolygons g = with(0, 0, 4, 0, 4, 4, 0, 4, 2, 2, 2, 0);
        due("4: a square", g.corners(0), 4);
        due("4: EMPTY", g.corners(1), 0);
        make(g, 7, 1, 1);
        due("4: POINT", g.corners(7), 1);
        g.add(7, 2, 2);
        due("4: SEGMENT", g.corners(7), 2);
        due("4: shape -1", g.corners(-1), BAD);
        due("4: shape 8", g.corners(8), BAD);
        due("4: greatest int", g.corners(HIGH), BAD);
    }

    private static void p05Corner() {
        GridPolygons g = with(5, 5, 1, 3, 1, 7, 4, 1);
        dueText("5: from the least on, anticlockwise", corners(g, 0), "1,3 4,1 5,5 1,7");
        due("5: i = 4", g.corner(0, 4, 0), NO);
        due("5: i = -1", g.corner(0, -1, 0), NO);
        due("5: what = 2", g.corner(0, 0, 2), NO);
        due("5: what = -1", g.corner(0, 0, -1), NO);
        due("5: shape 8", g.corner(8, 0, 0), NO);
        due("5: shape -1", g.corner(-1, 0, 0), NO);
        due("5: EMPTY", g.corner(1, 0, 0), NO);
        due("5: greatest int", g.corner(0, HIGH, 0), NO);
        make(g, 1, 3, 3, -1, 5);
        dueText("5: both of a SEGMENT", corners(g, 1), "-1,5 3,3");
        due("5: no third one", g.corner(1, 2, 1), NO);
        make(g, 2, -1, -1);
        due("5: a coordinate that is -1", g.corner(2, 0, 1), -1);
    }

    private static void p06Points() {
        GridPolygons g = with(-40, -40, 40, -40, 40, 40, -40, 40);
        due("6: AREA of the whole grid", g.points(0, 0), 12800);
        due("6: EDGE", g.points(0, 1), 320);
        due("6: INSIDE", g.points(0, 2), 6241);
        due("6: ALL", g.points(0, 3), 6561);
        int[] what = {0, 5, 0, 5};
        make(g, 1, -2, 3, 2, -5);
        for (int i = 0; i < 4; i++) {
            due("6: SEGMENT, what = " + i, g.points(1, i), what[i]);
            due("6: EMPTY, what = " + i, g.points(2, i), 0);
        }
        make(g, 3, -4, 4);
        due("6: AREA of a POINT", g.points(3, 0), 0);
        due("6: EDGE of a POINT", g.points(3, 1), 1);
        due("6: INSIDE of a POINT", g.points(3, 2), 0);
        due("6: ALL of a POINT", g.points(3, 3), 1);
        due("6: what = 4", g.points(0, 4), BAD);
        due("6: what = -1", g.points(0, -1), BAD);
        due("6: shape 8", g.points(8, 0), BAD);
        due("6: shape -1", g.points(-1, 0), BAD);
        make(g, 4, 0, 0, 1, 0, 0, 1);
        due("6: the least AREA", g.points(4, 0), 1);
    }

    private static void p07Times() {
        GridPolygons g = with(-40, -40, 40, -40, 40, 40, -40, 40);
        due("7: 1000 TIMES, ALL", g.times(0, 1000, 0), 80001L * 80001L);
        due("7: 1000 TIMES, INSIDE", g.times(0, 1000, 1), 79999L * 79999L);
        due("7: once", g.times(0, 1, 0), 6561);
        due("7: once, INSIDE", g.times(0, 1, 1), 6241);
        due("7: 0 TIMES", g.times(0, 0, 0), 1);
        due("7: 0 TIMES, INSIDE", g.times(0, 0, 1), 0);
        due("7: n = 1001", g.times(0, 1001, 0), BAD);
        due("7: n = -1", g.times(0, -1, 0), BAD);
        due("7: what = 2", g.times(0, 1, 2), BAD);
        due("7: what = -1", g.times(0, 1, -1), BAD);
        due("7: shape 8", g.times(8, 1, 0), BAD);
        due("7: BAD ahead of NOT", g.times(1, 1001, 1), BAD);
        make(g, 2, 1, 1, 5, 3);
        due("7: SEGMENT", g.times(2, 1000, 0), 2001);
        due("7: SEGMENT, 0 TIMES", g.times(2, 0, 0), 1);
        due("7: SEGMENT, INSIDE", g.times(2, 3, 1), NOT);
        due("7: SEGMENT, 0 TIMES, INSIDE", g.times(2, 0, 1), NOT);
        make(g, 2, 7, 7);
        due("7: POINT", g.times(2, 1000, 0), 1);
        due("7: POINT, INSIDE", g.times(2, 1, 1), NOT);
        due("7: EMPTY", g.times(3, 7, 0), 0);
        due("7: EMPTY, 0 TIMES", g.times(3, 0, 0), 0);
        due("7: EMPTY, INSIDE", g.times(3, 7, 1), NOT);
        make(g, 4, 0, 0, 1, 0, 0, 1);
        due("7: a triangle 4 TIMES", g.times(4, 4, 0), 15);
        due("7: a triangle 4 TIMES, INSIDE", g.times(4, 4, 1), 3);
        due("7: a triangle twice, INSIDE", g.times(4, 2, 1), 0);
    }

    private static void p08Where() {
        GridPolygons g = with(0, 0, 6, 2, 2, 6);
        due("8: a CORNER", g.where(0, 6, 2), 1);
        due("8: the edge", g.where(0, 3, 1), 1);
        due("8: the other edge", g.where(0, 4, 4), 1);
        due("8: INSIDE", g.where(0, 2, 2), 2);
        due("8: beside the edge", g.where(0, 2, 0), 0);
        due("8: on a SIDE's line, behind it", g.where(0, 9, 3), 0);
        due("8: far off", g.where(0, -40, 40), 0);
        due("8: x = 41", g.where(0, 41, 0), BAD);
        due("8: x = -41", g.where(0, -41, 0), BAD);
        due("8: y = 41", g.where(0, 0, 41), BAD);
        due("8: y = -41", g.where(0, 0, -41), BAD);
        due("8: shape 8", g.where(8, 0, 0), BAD);
        due("8: shape -1", g.where(-1, 0, 0), BAD);
        due("8: EMPTY", g.where(1, 0, 0), 0);
        make(g, 1, 0, 0);
        due("8: POINT", g.where(1, 0, 0), 1);
        due("8: beside a POINT", g.where(1, 0, 1), 0);
        make(g, 2, 0, 0, 4, 2);
        due("8: on a SEGMENT", g.where(2, 2, 1), 1);
        due("8: beside a SEGMENT", g.where(2, 1, 1), 0);
        due("8: behind a SEGMENT", g.where(2, 6, 3), 0);
        make(g, 3, 2, -3, 2, 5);
        due("8: on an upright SEGMENT", g.where(3, 2, 0), 1);
        due("8: above it", g.where(3, 2, 6), 0);
        due("8: beside it", g.where(3, 1, 0), 0);
    }

    private static void p09Point() {
        GridPolygons g = with(-1, 0, 1, -1, 2, 1);
        int[] xs = {-1, 0, 1, 1, 2};
        int[] ys = {0, 0, -1, 0, 1};
        due("9: how many", g.points(0, 3), 5);
        for (int i = 0; i < 5; i++) {
            due("9: x of " + i, g.point(0, i, 0), xs[i]);
            due("9: y of " + i, g.point(0, i, 1), ys[i]);
        }
        due("9: i = 5", g.point(0, 5, 0), NO);
        due("9: i = -1", g.point(0, -1, 0), NO);
        due("9: what = 2", g.point(0, 0, 2), NO);
        due("9: what = -1", g.point(0, 0, -1), NO);
        due("9: shape 8", g.point(8, 0, 0), NO);
        due("9: shape -1", g.point(-1, 0, 0), NO);
        due("9: greatest int", g.point(0, HIGH, 0), NO);
        due("9: EMPTY", g.point(1, 0, 0), NO);
        make(g, 1, 3, 9, 1, 3);
        due("9: of a SEGMENT", g.point(1, 1, 1), 6);
        due("9: of a SEGMENT", g.point(1, 2, 0), 3);
        due("9: no fourth one", g.point(1, 3, 0), NO);
        make(g, 2, 4, -7);
        due("9: of a POINT", g.point(2, 0, 1), -7);
        due("9: no second one", g.point(2, 1, 1), NO);
        make(g, 3, -40, -40, 40, -40, 40, 40, -40, 40);
        due("9: the last one of all", g.point(3, 6560, 1), 40);
        due("9: none behind it", g.point(3, 6561, 1), NO);
    }

    private static void p10Width() {
        GridPolygons g = with(0, 0, 6, 2, 2, 6);
        due("10: (1, 0)", g.width(0, 1, 0), 6);
        due("10: (0, 1)", g.width(0, 0, 1), 6);
        due("10: (1, 1)", g.width(0, 1, 1), 8);
        due("10: (1, -1)", g.width(0, 1, -1), 8);
        due("10: (100, 99)", g.width(0, 100, 99), 798);
        due("10: (1, 100)", g.width(0, 1, 100), 602);
        due("10: (1, -100)", g.width(0, 1, -100), 598);
        due("10: (101, 1)", g.width(0, 101, 1), BAD);
        due("10: (1, 101)", g.width(0, 1, 101), BAD);
        due("10: (1, -101)", g.width(0, 1, -101), BAD);
        due("10: (0, 0)", g.width(0, 0, 0), BAD);
        due("10: (0, 2)", g.width(0, 0, 2), BAD);
        due("10: (0, -1)", g.width(0, 0, -1), BAD);
        due("10: (2, 0)", g.width(0, 2, 0), BAD);
        due("10: (-1, 0)", g.width(0, -1, 0), BAD);
        due("10: (-1, 2)", g.width(0, -1, 2), BAD);
        due("10: (6, -9)", g.width(0, 6, -9), BAD);
        due("10: (1, least int)", g.width(0, 1, LOW), BAD);
        due("10: shape 8", g.width(8, 1, 0), BAD);
        due("10: shape -1", g.width(-1, 1, 0), BAD);
        due("10: EMPTY", g.width(1, 1, 0), NOT);
        due("10: BAD ahead of NOT", g.width(1, 2, 0), BAD);
        make(g, 1, 5, 5);
        due("10: POINT", g.width(1, 3, 2), 0);
        g.add(1, 8, 3);
        due("10: SEGMENT", g.width(1, 2, 3), 0);
        due("10: SEGMENT", g.width(1, 3, 2), 5);
    }

    private static void dueLeast(String of, GridPolygons g, int width, int a, int b) {
        due("11: LEAST WIDTH of " + of, g.least(0, 0), width);
        due("11: a of " + of, g.least(0, 1), a);
        due("11: b of " + of, g.least(0, 2), b);
    }

    private static void p11Least() {
        dueLeast("a square: (0, 1) ahead of (1, 0)", with(0, 0, 3, 0, 0, 3, 3, 3), 3, 0, 1);
        dueLeast("a tall one", with(0, 0, 2, 0, 0, 9, 2, 9), 2, 1, 0);
        dueLeast("one on the slant", with(0, 0, 1, 0, 5, 5, 6, 5), 1, 1, -1);
        dueLeast("one where (1, -1) is ahead of (1, 0)", with(0, 0, 2, 1, 1, 2, 2, 4, 3, 4), 3, 1, -1);
        dueLeast("a thin one", with(0, 0, 40, 39, 39, 38), 1, 1, -1);
        dueLeast("a thin one from corner to corner", with(-40, -40, 40, 39, -1, -1), 1, 1, -1);
        dueLeast("another thin one", with(-40, -39, 40, 40, -37, -36), 1, 1, -1);
        dueLeast("a thin one along (39, -40)", with(-40, -40, 40, 38, -39, -39), 1, 39, -40);
        dueLeast("a thin one along (3, -2)", with(-20, -30, 20, 30, 1, 1), 1, 3, -2);
        dueLeast("the whole grid", with(-40, -40, 40, -40, 40, 40, -40, 40), 80, 0, 1);
        dueLeast("one with a side less often divided", with(0, 0, 7, 5, 3, 2), 1, 2, -3);
        GridPolygons g = with(0, 0, 1, 0, 0, 1);
        due("11: what = 3", g.least(0, 3), NO);
        due("11: what = -1", g.least(0, -1), NO);
        due("11: shape 8", g.least(8, 0), NO);
        due("11: shape -1", g.least(-1, 0), NO);
        due("11: EMPTY", g.least(1, 0), NO);
        make(g, 1, 4, 4);
        due("11: POINT", g.least(1, 0), NO);
        g.add(1, 5, 5);
        due("11: SEGMENT", g.least(1, 0), NO);
    }

    private static void p12Map() {
        GridPolygons g = with(0, 0, 3, 0, 0, 1);
        due("12: a MAP", g.map(0, 1, 2, 3, 1, 2, -4, 5), 3);
        dueText("12: what it makes", corners(g, 1), "-4,5 2,8 -1,7");
        due("12: one that turns over", g.map(0, 1, 0, 1, 1, 0, 0, 0), 3);
        dueText("12: what it makes", corners(g, 1), "0,0 1,0 0,3");
        due("12: onto itself", g.map(0, 0, -1, 0, 0, -1, 1, 1), 3);
        dueText("12: what it makes", corners(g, 0), "-2,1 1,0 1,1");
        due("12: twice the plane", g.map(0, 1, 2, 0, 0, 1, 0, 0), NOT);
        due("12: flat", g.map(0, 1, 1, 1, 1, 1, 0, 0), NOT);
        due("12: of an EMPTY one", g.map(5, 1, 1, 1, 1, 1, 0, 0), NOT);
        for (int i = 0; i < 6; i++) {
            for (int v = -41; v <= 41; v += 82) {
                int[] m = {1, 0, 0, 1, 0, 0};
                m[i] = v;
                due("12: " + v + " as number " + i, g.map(0, 1, m[0], m[1], m[2], m[3], m[4], m[5]), BAD);
            }
        }
        due("12: BAD ahead of NOT", g.map(0, 1, 41, 0, 0, 41, 0, 0), BAD);
        due("12: least int", g.map(0, 1, LOW, LOW, LOW, LOW, LOW, LOW), BAD);
        due("12: shape 8", g.map(8, 1, 1, 0, 0, 1, 0, 0), BAD);
        due("12: to 8", g.map(0, 8, 1, 0, 0, 1, 0, 0), BAD);
        due("12: shape -1", g.map(-1, 1, 1, 0, 0, 1, 0, 0), BAD);
        due("12: to -1", g.map(0, -1, 1, 0, 0, 1, 0, 0), BAD);
        due("12: just in the grid", g.map(0, 2, 1, 0, 0, 1, 39, 39), 3);
        due("12: right out of it", g.map(0, 2, 1, 0, 0, 1, 40, 39), FULL);
        due("12: above it", g.map(0, 2, 1, 0, 0, 1, 0, 40), FULL);
        due("12: left out of it", g.map(0, 2, 1, 0, 0, 1, -39, 0), FULL);
        due("12: below it", g.map(0, 2, -1, 0, 0, -1, 0, -40), FULL);
        make(g, 3, 40, 0, 40, 1, 39, 0);
        due("12: far out of it", g.map(3, 2, 40, 39, 1, 1, 0, 0), FULL);
        due("12: far out of it, the other way", g.map(3, 2, 1, 1, -40, -39, 0, 0), FULL);
        due("12: far above it", g.map(3, 2, 1, 0, 3, 1, -20, 0), FULL);
        due("12: NOT ahead of FULL", g.map(0, 2, 2, 0, 0, 1, 40, 40), NOT);
        dueText("12: nothing has changed", corners(g, 2), "37,40 40,39 40,40");
        due("12: EMPTY", g.map(5, 2, 1, 40, 0, 1, 40, 40), 0);
        dueText("12: it has become EMPTY", corners(g, 2), "");
        make(g, 2, 1, 1, 3, 3);
        due("12: SEGMENT", g.map(2, 3, 1, 0, 0, -1, 0, 0), 2);
        dueText("12: its CORNERS", corners(g, 3), "1,-1 3,-3");
        make(g, 2, 1, 1);
        due("12: POINT", g.map(2, 3, 7, 8, 6, 7, 1, 0), 1);
        dueText("12: its CORNERS", corners(g, 3), "16,13");
        g.height(0, 0, 3);
        g.map(0, 4, 1, 0, 0, 1, 0, 0);
        due("12: the first one's HEIGHTS stay", g.height(0, 0, 3), 3);
        due("12: the new one's are 0", g.height(4, 0, 3), 0);
        g.map(0, 4, 1, 0, 0, 1, 40, 40);
        due("12: refused, HEIGHTS stay", g.height(4, 0, 3), 3);
        g.map(0, 4, 1, 0, 0, 1, 0, 0);
        due("12: the same anew, HEIGHTS are 0", g.height(4, 0, 3), 0);
    }

    private static void p13Maps() {
        GridPolygons g = with(0, 0, 1, 0, 0, 1, 1, 1);
        make(g, 1, 0, 0, 1, 0, 0, 1);
        make(g, 2, 1, 0, 0, 1, -1, -1);
        make(g, 3, 1, 0, 1, 1, 0, 1, -1, 0, -1, -1, 0, -1);
        make(g, 4, 0, 0, 3, 0, 0, 1);
        make(g, 5, 1, -40, 40, 39, 0, 0);
        due("13: TURNS of a square", g.maps(0, 0), 8);
        due("13: TURNS of a triangle", g.maps(1, 1), 6);
        due("13: TURNS of a triangle with a POINT INSIDE", g.maps(2, 2), 6);
        due("13: TURNS of a hexagon", g.maps(3, 3), 12);
        due("13: TURNS of one with a long SIDE", g.maps(4, 4), 2);
        due("13: of the same AREA, not ALIKE", g.maps(2, 4), 0);
        due("13: the other way round", g.maps(4, 2), 0);
        due("13: a square to a triangle", g.maps(0, 1), 0);
        g.map(4, 6, 7, 5, 4, 3, -2, -3);
        due("13: to what a MAP makes of it", g.maps(4, 6), 2);
        g.map(3, 6, 7, 5, 4, 3, -2, -3);
        due("13: to what a MAP makes of it", g.maps(6, 3), 12);
        make(g, 6, 0, 0, 2, 0, 3, 1, 1, 3);
        due("13: TURNS of one that has but one", g.maps(6, 6), 1);
        g.map(6, 7, 0, 1, 1, 0, 0, 0);
        due("13: to its mirror image", g.maps(6, 7), 1);
        make(g, 7, 0, 0, 2, 0);
        due("13: two that are no POLYGONS", g.maps(7, 7), NOT);
        due("13: a SEGMENT and a POLYGON", g.maps(7, 0), NOT);
        due("13: a POLYGON and a SEGMENT", g.maps(0, 7), NOT);
        g.clear(7);
        due("13: EMPTY", g.maps(7, 7), NOT);
        due("13: shape 8", g.maps(8, 0), BAD);
        due("13: other 8", g.maps(0, 8), BAD);
        due("13: shape -1", g.maps(-1, 0), BAD);
        due("13: other -1", g.maps(7, -1), BAD);
        make(g, 6, 0, 0, 40, 39, 39, 38);
        due("13: MAPS have any numbers", g.maps(6, 1), 6);
        make24(g, 6, -10, 5, 1);
        due("13: 24 CORNERS, half a turn", g.maps(6, 6) % 2, 0);
    }

    private static void p14Alike() {
        GridPolygons g = with(0, 0, 1, 0, 0, 1, 1, 1);
        make(g, 1, 5, 5, 7, 8, 6, 6, 8, 9);
        make(g, 2, 0, 0, 2, 0, 0, 1);
        due("14: two squares", g.alike(0, 1), 1);
        due("14: of the same AREA", g.alike(0, 2), 0);
        due("14: itself", g.alike(2, 2), 1);
        make(g, 3, 0, 0, 2, 4);
        make(g, 4, 40, 40, 40, 38);
        make(g, 5, 0, 0, 4, 1);
        due("14: SEGMENTS of 3 POINTS", g.alike(3, 4), 1);
        due("14: SEGMENTS of 3 and of 2", g.alike(3, 5), 0);
        make(g, 6, 9, 9);
        make(g, 7, -9, 0);
        due("14: POINTS", g.alike(6, 7), 1);
        due("14: POINT and SEGMENT", g.alike(6, 5), 0);
        due("14: SEGMENT and POLYGON", g.alike(4, 2), 0);
        g.clear(7);
        due("14: POINT and EMPTY", g.alike(6, 7), 0);
        due("14: EMPTY and POLYGON", g.alike(7, 0), 0);
        g.clear(6);
        due("14: EMPTY ones", g.alike(6, 7), 1);
        due("14: shape 8", g.alike(8, 0), BAD);
        due("14: other 8", g.alike(0, 8), BAD);
        due("14: shape -1", g.alike(-1, 0), BAD);
        due("14: other -1", g.alike(0, -1), BAD);
    }

    private static void p15Heaps() {
        GridPolygons g = new GridPolygons();
        due("15: none", g.heaps(), 0);
        make(g, 0, 1, 1);
        make(g, 1, 1, 1, 2, 2);
        due("15: only POLYGONS count", g.heaps(), 0);
        make(g, 7, 0, 0, 1, 0, 0, 1);
        due("15: one", g.heaps(), 1);
        make(g, 2, 5, 5, 6, 6, 8, 9);
        due("15: two that are ALIKE", g.heaps(), 1);
        make(g, 3, 0, 0, 1, 0, 0, 1, 1, 1);
        due("15: another one", g.heaps(), 2);
        make(g, 4, 0, 0, 2, 0, 0, 1);
        due("15: of the same AREA", g.heaps(), 3);
        make(g, 5, 1, 0, 0, 1, -1, -1);
        make(g, 6, 0, 0, 3, 0, 0, 1);
        due("15: of the same AREA and CORNERS", g.heaps(), 5);
        g.clear(7);
        due("15: one of two ALIKE is gone", g.heaps(), 5);
        g.clear(2);
        due("15: both are gone", g.heaps(), 4);
    }

    private static void p16Sum() {
        GridPolygons g = with(0, 0, 2, 0, 0, 1);
        make(g, 1, 0, 0, 1, 2);
        due("16: triangle and SEGMENT", g.sum(0, 1, 2), 5);
        dueText("16: its CORNERS", corners(g, 2), "0,0 2,0 3,2 1,3 0,1");
        make(g, 3, -3, 4);
        due("16: with a POINT", g.sum(0, 3, 4), 3);
        dueText("16: its CORNERS", corners(g, 4), "-3,4 -1,4 -3,5");
        due("16: with an EMPTY one", g.sum(0, 5, 4), 0);
        due("16: it is EMPTY", g.corners(4), 0);
        due("16: two SEGMENTS in a row", g.sum(1, 1, 4), 2);
        dueText("16: its CORNERS", corners(g, 4), "0,0 2,4");
        due("16: onto one of the two", g.sum(0, 1, 1), 5);
        dueText("16: its CORNERS", corners(g, 1), "0,0 2,0 3,2 1,3 0,1");
        make(g, 6, 20, 20, -20, 20, 20, -20);
        due("16: up to the grid's end", g.sum(6, 6, 7), 3);
        dueText("16: its CORNERS", corners(g, 7), "-40,40 40,-40 40,40");
        g.add(6, 21, 0);
        due("16: beyond it", g.sum(6, 6, 7), FULL);
        dueText("16: nothing has changed", corners(g, 7), "-40,40 40,-40 40,40");
        make(g, 6, 0, 0, 0, -21);
        due("16: below it", g.sum(6, 6, 5), FULL);
        make24(g, 6, -10, 5, 1);
        due("16: 24 CORNERS and the same", g.sum(6, 6, 7), 24);
        make(g, 5, 0, 0, 3, 2);
        due("16: more than 24 CORNERS", g.sum(6, 5, 7), FULL);
        due("16: nothing has changed", g.corners(7), 24);
        due("16: EMPTY is never FULL", g.sum(6, 4, 4) == FULL ? 1 : 0, 0);
        due("16: shape 8", g.sum(8, 0, 0), BAD);
        due("16: other 8", g.sum(0, 8, 0), BAD);
        due("16: to 8", g.sum(0, 0, 8), BAD);
        due("16: shape -1", g.sum(-1, 0, 0), BAD);
        due("16: other -1", g.sum(0, -1, 0), BAD);
        due("16: to -1", g.sum(0, 0, -1), BAD);
        make(g, 0, 0, 0, 1, 0, 0, 1);
        make(g, 1, 0, 0);
        g.height(0, 0, 4);
        g.sum(0, 1, 0);
        due("16: the same anew, HEIGHTS are 0", g.height(0, 0, 4), 0);
    }

    private static void p17Mixed() {
        GridPolygons g = with(0, 0, 2, 0, 0, 1);
        make(g, 1, 0, 0, 1, 2);
        due("17: triangle and SEGMENT", g.mixed(0, 1), 10);
        due("17: the other way round", g.mixed(1, 0), 10);
        due("17: with itself", g.mixed(0, 0), 4);
        due("17: SEGMENT with itself", g.mixed(1, 1), 0);
        make(g, 2, 3, 0, 0, 0);
        due("17: two SEGMENTS", g.mixed(1, 2), 12);
        make(g, 3, 4, 4);
        due("17: with a POINT", g.mixed(0, 3), 0);
        due("17: with an EMPTY one", g.mixed(0, 4), 0);
        due("17: EMPTY ones", g.mixed(4, 4), 0);
        make(g, 5, -40, -40, 40, -40, 40, 40, -40, 40);
        due("17: THE SUM may be beyond the grid", g.mixed(5, 5), 25600);
        make24(g, 6, -10, 5, 1);
        make(g, 7, 0, 0, 3, 2);
        due("17: THE SUM may have more CORNERS", g.mixed(6, 7) > 0 ? 1 : 0, 1);
        due("17: shape 8", g.mixed(8, 0), BAD);
        due("17: other 8", g.mixed(0, 8), BAD);
        due("17: shape -1", g.mixed(-1, 0), BAD);
        due("17: other -1", g.mixed(0, -1), BAD);
        due("17: BAD with an EMPTY one", g.mixed(4, 8), BAD);
    }

    private static void p18Parts() {
        GridPolygons g = with(0, 0, 1, 0, 0, 1);
        due("18: WHOLE", g.parts(0), 2);
        make(g, 0, 0, 0, 5, 0, 0, 5);
        due("18: a triangle 5 TIMES", g.parts(0), 6);
        make(g, 0, -40, -40, 40, -40, 40, 40, -40, 40);
        due("18: the whole grid", g.parts(0), 81 * 81);
        make(g, 0, 1, 0, 1, 1, 0, 1, -1, 0, -1, -1, 0, -1);
        due("18: a hexagon", g.parts(0), 10);
        make(g, 0, 0, 0, 2, 1, 1, 2);
        due("18: WHOLE, with a POINT INSIDE", g.parts(0), 2);
        make24(g, 0, -10, 5, 1);
        due("18: 24 CORNERS", g.parts(0) > 4096 ? 1 : 0, 1);
        for (int i = 0; i < 2; i++) {
            due("18: grown", g.sum(0, 0, 0), i == 0 ? 24 : FULL);
        }
        due("18: EMPTY", g.parts(1), NOT);
        make(g, 1, 2, 2);
        due("18: POINT", g.parts(1), NOT);
        g.add(1, 4, 4);
        due("18: SEGMENT", g.parts(1), NOT);
        due("18: shape 8", g.parts(8), BAD);
        due("18: shape -1", g.parts(-1), BAD);
    }

    private static void dueParts(String of, GridPolygons g, int... want) {
        for (int i = -1; i < g.corners(0); i++) {
            due("19: of " + of + ", i = " + i, g.part(0, i), want[i + 1]);
        }
    }

    private static void p19Part() {
        dueParts("a WHOLE one", with(0, 0, 2, 1, 1, 2), 3, 1, 1, 1);
        dueParts("a triangle 5 TIMES", with(0, 0, 5, 0, 0, 5), 3, 1, 1, 1);
        dueParts("a rectangle: the least of the first SIDE", with(0, 0, 3, 0, 0, 2, 3, 2), 2, 0, 1, 0, 1);
        dueParts("a hexagon", with(1, 0, 1, 1, 0, 1, -1, 0, -1, -1, 0, -1), 2, 0, 0, 1, 0, 0, 1);
        dueParts("one that takes several STEPS of a SIDE", with(0, 0, 4, 0, 0, 1), 6, 4, 1, 1);
        dueParts("one with two of as many STEPS", with(0, 0, 6, -2, 5, 0, 3, 1, 2, 1), 3, 1, 0, 1, 1, 0);
        dueParts("one that begins later", with(0, 4, 1, 2, 3, 8, 1, 7, 0, 5), 3, 0, 1, 0, 1, 1);
        GridPolygons g = with(0, 0, 5, 0, 0, 5);
        due("19: i = 3", g.part(0, 3), BAD);
        due("19: i = -2", g.part(0, -2), BAD);
        due("19: shape 8", g.part(8, 0), BAD);
        due("19: shape -1", g.part(-1, 0), BAD);
        due("19: EMPTY", g.part(1, -1), NOT);
        make(g, 1, 1, 1);
        due("19: POINT", g.part(1, -1), NOT);
        make(g, 1, 1, 1, 3, 3);
        due("19: SEGMENT", g.part(1, -1), NOT);
        due("19: SEGMENT's SIDE back", g.part(1, 1), NOT);
        due("19: no third SIDE", g.part(1, 2), BAD);
        make(g, 0, 0, 0, 1, 0, 0, 1, 1, 1);
        due("19: after a change", g.part(0, -1), 2);
        make(g, 2, 0, 0, 2, 1, 1, 2);
        due("19: of another SHAPE", g.part(2, -1), 3);
        due("19: of the first one again", g.part(0, -1), 2);
    }

    private static void p20Normal() {
        GridPolygons g = with(3, 0, 0, 2, -1, -1);
        int[] want = {1, -4, 3, 2, 3, 6, -3, 1, 2};
        for (int i = 0; i < 9; i++) {
            due("20: SIDE " + i / 3 + ", what = " + i % 3, g.normal(0, i / 3, i % 3), want[i]);
        }
        due("20: i = 3", g.normal(0, 3, 0), NO);
        due("20: i = -1", g.normal(0, -1, 0), NO);
        due("20: what = 3", g.normal(0, 0, 3), NO);
        due("20: what = -1", g.normal(0, 0, -1), NO);
        due("20: shape 8", g.normal(8, 0, 0), NO);
        due("20: shape -1", g.normal(-1, 0, 0), NO);
        due("20: EMPTY", g.normal(1, 0, 0), NO);
        make(g, 1, 0, 0, 1, 0, 0, 1);
        due("20: (0, 0) on the edge", g.normal(1, 0, 0), NO);
        make(g, 1, 5, 5, 7, 5, 5, 8);
        due("20: (0, 0) outside", g.normal(1, 0, 0), NO);
        make(g, 1, -1, -1, 1, 1);
        due("20: SEGMENT", g.normal(1, 0, 0), NO);
        make(g, 1, -40, -40, 40, -40, 40, 40, -40, 40);
        due("20: a long SIDE", g.normal(1, 0, 1), -1);
        due("20: a long SIDE that goes up", g.normal(1, 1, 0), 1);
        due("20: its FAR", g.normal(1, 0, 2), 40);
    }

    private static void p21Reflexive() {
        GridPolygons g = with(1, 0, 0, 1, -1, -1);
        due("21: a triangle", g.reflexive(0), 1);
        make(g, 0, -1, -1, 2, -1, -1, 2);
        due("21: its DUAL", g.reflexive(0), 1);
        make(g, 0, -1, -1, 1, -1, -1, 1, 1, 1);
        due("21: a square", g.reflexive(0), 1);
        make(g, 0, -2, -2, 2, -2, -2, 2, 2, 2);
        due("21: FAR is 2", g.reflexive(0), 0);
        make(g, 0, -1, -1, 2, -1, -1, 1, 2, 1);
        due("21: one FAR is 2", g.reflexive(0), 0);
        make(g, 0, 0, 0, 2, 0, 0, 2);
        due("21: not ROUND", g.reflexive(0), 0);
        make(g, 0, 1, 1, 3, 1, 1, 3, 3, 3);
        due("21: ROUND, but for its place", g.reflexive(0), 0);
        due("21: EMPTY", g.reflexive(1), 0);
        make(g, 1, -1, 0, 1, 0);
        due("21: SEGMENT", g.reflexive(1), 0);
        make(g, 1, 0, 0);
        due("21: POINT", g.reflexive(1), 0);
        due("21: shape 8", g.reflexive(8), BAD);
        due("21: shape -1", g.reflexive(-1), BAD);
    }

    private static void p22Dual() {
        GridPolygons g = with(1, 0, 0, 1, -1, -1);
        due("22: of a triangle", g.dual(0, 1), 3);
        dueText("22: its CORNERS", corners(g, 1), "-2,1 1,-2 1,1");
        due("22: twelve POINTS on both edges", g.points(0, 1) + g.points(1, 1), 12);
        due("22: onto itself", g.dual(1, 1), 3);
        dueText("22: the first one again", corners(g, 1), "-1,-1 1,0 0,1");
        make(g, 2, 1, 0, 1, 1, 0, 1, -1, 0, -1, -1, 0, -1);
        due("22: of a hexagon", g.dual(2, 3), 6);
        dueText("22: its CORNERS", corners(g, 3), "-1,0 0,-1 1,-1 1,0 0,1 -1,1");
        make(g, 4, -2, -2, 2, -2, -2, 2);
        due("22: not REFLEXIVE", g.dual(4, 3), NOT);
        due("22: EMPTY", g.dual(7, 3), NOT);
        due("22: nothing has changed", g.corners(3), 6);
        due("22: shape 8", g.dual(8, 0), BAD);
        due("22: to 8", g.dual(0, 8), BAD);
        due("22: shape -1", g.dual(-1, 0), BAD);
        due("22: to -1, BAD ahead of NOT", g.dual(7, -1), BAD);
        make(g, 5, 1, 0, 0, 1, -1, -1);
        g.map(5, 6, 1, 39, 0, 1, 0, 0);
        due("22: a slim one is REFLEXIVE", g.reflexive(6), 1);
        due("22: a CORNER of its DUAL is beyond", g.dual(6, 4), FULL);
        due("22: nothing has changed", g.corners(4), 3);
        g.map(5, 6, 1, 19, 0, 1, 0, 0);
        due("22: a CORNER of its DUAL is just in the grid", g.dual(6, 4), 3);
        g.height(6, 0, 2);
        g.dual(4, 6);
        due("22: made anew, HEIGHTS are 0", g.height(6, 0, 2), 0);
    }

    private static void p23Between() {
        GridPolygons g = new GridPolygons();
        due("23: a right angle", g.between(1, 0, 0, 1), 2);
        due("23: through other POINTS", g.between(7, 0, 0, 40), 2);
        due("23: (1, 0), (1, 2)", g.between(1, 0, 1, 2), 3);
        due("23: (1, 0), (-1, 2)", g.between(1, 0, -1, 2), 3);
        due("23: (1, 0), (2, 3)", g.between(1, 0, 2, 3), 3);
        due("23: (1, 0), (-2, 3)", g.between(1, 0, -2, 3), 4);
        due("23: nearly a half turn", g.between(-40, -1, 40, -1), 81);
        due("23: nearly a half turn, nothing between", g.between(40, 39, -39, -38), 2);
        due("23: on the left", g.between(0, 1, -3, -1), 3);
        due("23: clockwise", g.between(0, 1, 1, 0), NOT);
        due("23: none", g.between(1, 1, 2, 2), NOT);
        due("23: a half", g.between(1, 1, -2, -2), NOT);
        due("23: u is (0, 0)", g.between(0, 0, 1, 0), NOT);
        due("23: v is (0, 0)", g.between(1, 0, 0, 0), NOT);
        for (int i = 0; i < 4; i++) {
            for (int v = -41; v <= 41; v += 82) {
                int[] p = {1, 0, 0, 1};
                p[i] = v;
                due("23: " + v + " as number " + i, g.between(p[0], p[1], p[2], p[3]), BAD);
            }
        }
        due("23: least int", g.between(LOW, LOW, HIGH, HIGH), BAD);
        due("23: BAD ahead of NOT", g.between(0, 0, 0, 41), BAD);
    }

    private static void p24Ray() {
        GridPolygons g = new GridPolygons();
        int[] want = {1, 0, NO, 0, 1, 2, -1, 2, 2, -2, 3, NO};
        for (int i = 0; i < 12; i++) {
            due("24: i = " + i / 3 + ", what = " + i % 3, g.ray(2, 0, -4, 6, i / 3, i % 3), want[i]);
        }
        due("24: i = 4", g.ray(2, 0, -4, 6, 4, 0), NO);
        due("24: i = -1", g.ray(2, 0, -4, 6, -1, 0), NO);
        due("24: greatest int", g.ray(2, 0, -4, 6, HIGH, 0), NO);
        for (int i = 0; i < 4; i++) {
            due("24: what = 3, i = " + i, g.ray(2, 0, -4, 6, i, 3), NO);
            due("24: what = -1, i = " + i, g.ray(2, 0, -4, 6, i, -1), NO);
        }
        due("24: clockwise", g.ray(0, 1, 1, 0, 0, 0), NO);
        due("24: x = 41", g.ray(41, 0, 0, 1, 0, 0), NO);
        due("24: y = -41", g.ray(1, -41, 0, 1, 0, 0), NO);
        due("24: u = 41", g.ray(1, 0, 41, 1, 0, 0), NO);
        due("24: v = 41", g.ray(1, 0, 0, 41, 0, 0), NO);
        due("24: a great BEND", g.ray(1, 0, -1, 40, 1, 2), 40);
        due("24: BEND of (1, 1) between (1, 0), (1, 2)", g.ray(1, 0, 1, 2, 1, 2), 2);
        due("24: its x", g.ray(1, 0, 1, 2, 1, 0), 1);
        due("24: the last one's y", g.ray(1, 0, 2, 4, 2, 1), 2);
        due("24: the last one's BEND", g.ray(1, 0, 2, 4, 2, 2), NO);
    }

    private static String told(GridPolygons g, int shape, int cut) {
        StringBuilder s = new StringBuilder();
        for (int i = 0; i < g.cuts(shape, 2); i++) {
            s.append(i == 0 ? "" : " ").append(g.cut(shape, cut, i));
        }
        return s.toString();
    }

    private static void p25Cuts() {
        GridPolygons g = with(0, 0, 2, 0, 0, 1, 2, 1);
        int[] want = {6, 4, 9, 4};
        for (int what = 0; what < 4; what++) {
            due("25: what = " + what, g.cuts(0, what), want[what]);
        }
        due("25: what = 4", g.cuts(0, 4), BAD);
        due("25: what = -1", g.cuts(0, -1), BAD);
        due("25: shape 8", g.cuts(8, 0), BAD);
        due("25: shape -1", g.cuts(-1, 0), BAD);
        for (int what = 0; what < 4; what++) {
            due("25: EMPTY, what = " + what, g.cuts(1, what), NOT);
        }
        due("25: BAD ahead of NOT", g.cuts(1, 4), BAD);
        make(g, 1, 0, 0, 3, 3);
        due("25: SEGMENT", g.cuts(1, 2), NOT);
        make(g, 1, 0, 0, 5, 0, 0, 1, 5, 1);
        due("25: 12 POINTS", g.cuts(1, 0), 252);
        make(g, 1, 0, 0, 6, 0, 0, 1, 5, 1);
        for (int what = 0; what < 4; what++) {
            due("25: 13 POINTS, what = " + what, g.cuts(1, what), NOT);
        }
        make(g, 2, 1, 2, 2, 2, 4, 4, 4, 5, 2, 5, 1, 4);
        due("25: of 12 POINTS", g.points(2, 3), 12);
        due("25: above 1500", g.cuts(2, 0), SPENT);
        due("25: above 1500, FARTHEST", g.cuts(2, 1), SPENT);
        due("25: segments in each", g.cuts(2, 2), 3 * 3 + 2 * 9 - 3);
        due("25: triangles", g.cuts(2, 3), 2 * 3 + 9 - 2);
        make(g, 3, 1, 4, 4, 1, 5, 1, 4, 3, 2, 5, 1, 5);
        due("25: not above 1500", g.cuts(3, 0), 1137);
        due("25: FARTHEST", g.cuts(3, 1), 20);
        due("25: the SPENT one again", g.cuts(2, 0), SPENT);
        g.add(0, 0, 2);
        due("25: after a change", g.cuts(0, 2), 12);
    }

    private static void p26Cut() {
        GridPolygons g = with(0, 0, 2, 0, 0, 1, 2, 1);
        // POINTS 0, 2, 4 are below 1, 3, 5. All that can be flipped is the diagonal of a parallelogram.
        String[] cuts = {
            "1 2 3 5 19 36 37 53 69", "1 2 3 19 35 36 37 53 69", "1 2 18 19 35 36 37 53 69",
            "1 2 3 19 35 36 52 53 69", "1 2 18 19 35 36 52 53 69", "1 2 18 19 20 36 52 53 69"
        };
        int[] far = {0, 1, 2, 2, 3, 4};
        for (int i = 0; i < 6; i++) {
            dueText("26: CUT " + i, told(g, 0, i), cuts[i]);
            due("26: HOW FAR of CUT " + i, g.cut(0, i, -1), far[i]);
        }
        due("26: i = 6", g.cut(0, 6, 0), BAD);
        due("26: i = 6, HOW FAR", g.cut(0, 6, -1), BAD);
        due("26: i = -1", g.cut(0, -1, 0), BAD);
        due("26: what = 9", g.cut(0, 0, 9), BAD);
        due("26: what = -2", g.cut(0, 0, -2), BAD);
        due("26: shape 8", g.cut(8, 0, 0), BAD);
        due("26: shape -1", g.cut(-1, 0, 0), BAD);
        due("26: EMPTY", g.cut(1, 0, 0), NOT);
        make(g, 1, 0, 0, 6, 0, 0, 1, 5, 1);
        due("26: 13 POINTS", g.cut(1, 0, 0), NOT);
        due("26: BAD ahead of NOT", g.cut(1, -1, 0), BAD);
        make(g, 2, 1, 2, 2, 2, 4, 4, 4, 5, 2, 5, 1, 4);
        due("26: above 1500", g.cut(2, 0, 0), SPENT);
        due("26: above 1500, HOW FAR", g.cut(2, 0, -1), SPENT);
        due("26: no such segment, BAD ahead of SPENT", g.cut(2, 0, 24), BAD);
    }

    private static void p27Flips() {
        GridPolygons g = with(0, 0, 2, 0, 0, 1, 2, 1);
        int[] want = {1, 3, 2, 2, 3, 1};
        for (int i = 0; i < 6; i++) {
            due("27: FLIPS of CUT " + i, g.flips(0, i), want[i]);
        }
        make(g, 1, 0, 0, 2, 1, 1, 2);
        due("27: none", g.flips(1, 0), 0);
        make(g, 2, 0, 0, 1, 0, 0, 1, 1, 1);
        due("27: one", g.flips(2, 0), 1);
        due("27: one back", g.flips(2, 1), 1);
        due("27: i = 2", g.flips(2, 2), BAD);
        due("27: i = -1", g.flips(2, -1), BAD);
        due("27: shape 8", g.flips(8, 0), BAD);
        due("27: shape -1", g.flips(-1, 0), BAD);
        due("27: EMPTY", g.flips(3, 0), NOT);
        make(g, 3, 0, 0, 6, 0, 0, 1, 5, 1);
        due("27: 13 POINTS", g.flips(3, 0), NOT);
        due("27: BAD ahead of NOT", g.flips(3, -1), BAD);
        make(g, 3, 1, 2, 2, 2, 4, 4, 4, 5, 2, 5, 1, 4);
        due("27: above 1500", g.flips(3, 0), SPENT);
    }

    private static void p28Height() {
        GridPolygons g = with(0, 0, 2, 0, 0, 2);
        due("28: 0 at first", g.height(0, 5, 1000), 0);
        due("28: what it was", g.height(0, 5, -1000), 1000);
        due("28: what it was", g.height(0, 5, 3), -1000);
        due("28: another one", g.height(0, 4, 3), 0);
        due("28: i = 6", g.height(0, 6, 0), NO);
        due("28: i = -1", g.height(0, -1, 0), NO);
        due("28: v = 1001", g.height(0, 5, 1001), NO);
        due("28: v = -1001", g.height(0, 5, -1001), NO);
        due("28: shape 8", g.height(8, 0, 0), NO);
        due("28: shape -1", g.height(-1, 0, 0), NO);
        due("28: EMPTY", g.height(1, 0, 0), NO);
        make(g, 1, 0, 0, 3, 0);
        due("28: SEGMENT", g.height(1, 0, 0), NO);
        due("28: nothing has changed", g.height(0, 5, 3), 3);
        make(g, 2, 0, 0, 7, 0, 0, 4, 7, 4);
        due("28: 40 POINTS", g.points(2, 3), 40);
        due("28: the last of 40", g.height(2, 39, 6), 0);
        due("28: none behind it", g.height(2, 40, 6), NO);
        g.add(2, 8, 0);
        due("28: 41 POINTS", g.points(2, 3), 41);
        due("28: more than 40", g.height(2, 0, 6), NO);
        make(g, 2, 0, 0, 7, 0, 0, 4, 7, 4);
        due("28: made anew", g.height(2, 39, 6), 0);
    }

    private static void p29Pieces() {
        GridPolygons g = with(0, 0, 2, 0, 0, 2, 2, 2);
        due("29: flat", g.pieces(0, 0), 1);
        due("29: all SEEN", g.pieces(0, 1), 9);
        due("29: no triangles", g.pieces(0, 2), 0);
        g.height(0, 0, 1);
        due("29: a corner up", g.pieces(0, 0), 2);
        due("29: all SEEN", g.pieces(0, 1), 9);
        due("29: one triangle", g.pieces(0, 2), 1);
        g.height(0, 1, 1);
        due("29: its neighbour too", g.pieces(0, 0), 2);
        due("29: one is not SEEN", g.pieces(0, 1), 8);
        due("29: a triangle of the AREA 2 is none", g.pieces(0, 2), 0);
        g.height(0, 0, 0);
        g.height(0, 1, 0);
        g.height(0, 4, -1000);
        due("29: a deep middle", g.pieces(0, 0), 4);
        make(g, 1, 0, 0, 1, 0, 0, 1);
        g.height(1, 2, 1000);
        due("29: one triangle is one PIECE", g.pieces(1, 0), 1);
        due("29: of the AREA 1", g.pieces(1, 2), 1);
        due("29: what = 3", g.pieces(0, 3), BAD);
        due("29: what = -1", g.pieces(0, -1), BAD);
        due("29: shape 8", g.pieces(8, 0), BAD);
        due("29: shape -1", g.pieces(-1, 0), BAD);
        due("29: EMPTY", g.pieces(2, 0), NOT);
        due("29: BAD ahead of NOT", g.pieces(2, 3), BAD);
        make(g, 2, 0, 0, 3, 3);
        due("29: SEGMENT", g.pieces(2, 0), NOT);
        make(g, 2, 0, 0, 7, 0, 0, 4, 7, 4);
        due("29: 40 POINTS", g.pieces(2, 1), 40);
        g.add(2, 8, 0);
        due("29: 41 POINTS", g.pieces(2, 1), NOT);
        make(g, 3, 0, 0, 7, 0, 0, 4, 7, 4);
        for (int i = 0; i < 40; i++) {
            int x = g.point(3, i, 0);
            int y = g.point(3, i, 1);
            g.height(3, i, 5 * x * x + 7 * y * y + x * y);
        }
        due("29: a bowl of 40 POINTS", g.pieces(3, 0), 56);
        due("29: all SEEN", g.pieces(3, 1), 40);
        due("29: all of the AREA 1", g.pieces(3, 2), 56);
    }

    private static void p30Piece() {
        GridPolygons g = with(0, 0, 2, 0, 0, 2, 2, 2);
        g.height(0, 4, -1);
        int[][] want = {{0, 1, 2, 4}, {0, 3, 4, 6}, {2, 4, 5, 8}, {4, 6, 7, 8}};
        for (int piece = 0; piece < 4; piece++) {
            due("30: how many of PIECE " + piece, g.piece(0, piece, -1), 4);
            for (int i = 0; i < 4; i++) {
                due("30: PIECE " + piece + ", i = " + i, g.piece(0, piece, i), want[piece][i]);
            }
        }
        due("30: i = 4", g.piece(0, 0, 4), BAD);
        due("30: i = -2", g.piece(0, 0, -2), BAD);
        due("30: PIECE 4", g.piece(0, 4, -1), BAD);
        due("30: PIECE -1", g.piece(0, -1, -1), BAD);
        due("30: shape 8", g.piece(8, 0, -1), BAD);
        due("30: shape -1", g.piece(-1, 0, -1), BAD);
        due("30: EMPTY", g.piece(1, 0, -1), NOT);
        due("30: BAD ahead of NOT", g.piece(1, -1, -1), BAD);
        make(g, 1, 0, 0, 7, 0, 0, 4, 7, 4, 8, 0);
        due("30: 41 POINTS", g.piece(1, 0, -1), NOT);
        make(g, 2, 0, 0, 1, 0, 0, 1, 1, 1);
        g.height(2, 0, 1);
        due("30: the other way", g.piece(2, 0, 2), 2);
        due("30: the other way", g.piece(2, 1, 0), 1);
        g.height(2, 0, -1);
        due("30: cut through (0, 0)", g.piece(2, 0, 2), 3);
        due("30: cut through (0, 0)", g.piece(2, 1, 0), 0);
        due("30: PIECES of the first one again", g.piece(0, 3, 0), 4);
    }

    public static void main(String[] args) {
        theConstants();
        p01New();
        p02Clear();
        p03Add();
        p04Corners();
        p05Corner();
        p06Points();
        p07Times();
        p08Where();
        p09Point();
        p10Width();
        p11Least();
        p12Map();
        p13Maps();
        p14Alike();
        p15Heaps();
        p16Sum();
        p17Mixed();
        p18Parts();
        p19Part();
        p20Normal();
        p21Reflexive();
        p22Dual();
        p23Between();
        p24Ray();
        p25Cuts();
        p26Cut();
        p27Flips();
        p28Height();
        p29Pieces();
        p30Piece();
        end("all promises are kept");
    }
}
