// What the tests share: to tell wrong answers, to make SHAPES, to tell what an object holds.
class Checks {
    static final int BAD = -1, NOT = -2, FULL = -3, SPENT = -5, NO = -1000000;
    static final int LOW = Integer.MIN_VALUE, HIGH = Integer.MAX_VALUE;
    private static final int MOST_TOLD = 100;
    private static int wrong = 0;

    static void fault(String what) {
        wrong++;
        if (wrong <= MOST_TOLD) {
            System.out.println(what);
        }
    }

    static void due(String call, long got, long want) {
        if (got != want) {
            fault(call + " answered " + got + ", due is " + want);
        }
    }

    static void dueText(String call, String got, String want) {
        if (!got.equals(want)) {
            fault(call + " answered " + got + ", due is " + want);
        }
    }

    /** Says how it went, and ends the program with exit code 1 if anything was wrong. */
    static void end(String well) {
        System.out.println(wrong == 0 ? well : wrong + " answers were wrong");
        if (wrong != 0) {
            System.exit(1);
        }
    }

    static void make(GridPolygons g, int shape, int... xy) {
        g.clear(shape);
        for (int i = 0; i + 1 < xy.length; i += 2) {
            g.add(shape, xy[i], xy[i + 1]);
        }
    }

    /** A new object with one SHAPE, number 0. */
    static GridPolygons with(int... xy) {
        GridPolygons g = new GridPolygons();
        make(g, 0, xy);
        return g;
    }

    /** A polygon of 24 corners from a point on: 17 times the scale wide and tall, 8 times the scale of it below. */
    static void make24(GridPolygons g, int shape, int fromX, int fromY, int scale) {
        int[] sides = {1, -3, 1, -2, 1, -1, 2, -1, 3, -1, 1, 0, 3, 1, 2, 1, 1, 1, 1, 2, 1, 3, 0, 1};
        g.clear(shape);
        int x = fromX;
        int y = fromY;
        for (int turn = 1; turn >= -1; turn -= 2) {
            for (int i = 0; i < sides.length; i += 2) {
                g.add(shape, x, y);
                x += turn * scale * sides[i];
                y += turn * scale * sides[i + 1];
            }
        }
    }

    static String corners(GridPolygons g, int shape) {
        StringBuilder s = new StringBuilder();
        for (int i = 0; i < g.corners(shape); i++) {
            s.append(i == 0 ? "" : " ").append(g.corner(shape, i, 0)).append(',').append(g.corner(shape, i, 1));
        }
        return s.toString();
    }

    /** All CORNERS and HEIGHTS of all SHAPES; HEIGHTS are told by setting them, and are set back. */
    static String told(GridPolygons g) {
        StringBuilder s = new StringBuilder();
        for (int shape = 0; shape < 8; shape++) {
            s.append(corners(g, shape)).append(':');
            for (int i = 0; i < 40; i++) {
                int was = g.height(shape, i, 0);
                if (was != NO) {
                    g.height(shape, i, was);
                    s.append(' ').append(was);
                }
            }
            s.append('/');
        }
        return s.toString();
    }
}
