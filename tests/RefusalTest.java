// Calls with any numbers, right ones and wrong ones: none throws, and a refused one changes nothing.
public final class RefusalTest extends Checks {
    private static final int[] EDGES = {
        Integer.MIN_VALUE, Integer.MIN_VALUE + 1, -1000001, -1001, -1000, -101, -100, -81, -42, -41, -40, -39, -3, -2, -1,
        0, 1, 2, 3, 7, 8, 9, 11, 12, 13, 23, 24, 25, 39, 40, 41, 42, 62, 63, 64, 80, 81, 100, 101, 500, 1000, 1001, 1499,
        1500, 1501, 4095, 4096, 6560, 6561, 65536, Integer.MAX_VALUE - 1, Integer.MAX_VALUE
    };
    private static long seed = 7;

    private static int next(int below) {
        seed = seed * 6364136223846793005L + 1442695040888963407L;
        return (int) ((seed >>> 33) % below);
    }

    private static int any() {
        return next(3) == 0 ? EDGES[next(EDGES.length)] : next(9);
    }

    private static int shape() {
        return next(12) == 0 ? EDGES[next(EDGES.length)] : next(8);
    }

    private static int coordinate() {
        return next(40) == 0 ? EDGES[next(EDGES.length)] : next(4) == 0 ? next(81) - 40 : next(7) - 3;
    }

    private static long call(GridPolygons g, int which) {
        switch (which) {
            case 0: return next(6) == 0 ? g.clear(shape()) : g.corners(shape());
            case 1: return g.add(shape(), coordinate(), coordinate());
            case 2: return g.corners(shape());
            case 3: return g.corner(shape(), any(), any());
            case 4: return g.points(shape(), any());
            case 5: return g.times(shape(), any(), any());
            case 6: return g.where(shape(), coordinate(), coordinate());
            case 7: return g.point(shape(), any(), any());
            case 8: return g.width(shape(), any(), any());
            case 9: return g.least(shape(), any());
            case 10: return g.map(shape(), shape(), 1, coordinate(), next(2) * any(), 1, coordinate(), coordinate());
            case 11: return g.maps(shape(), shape());
            case 12: return g.alike(shape(), shape());
            case 13: return g.heaps();
            case 14: return g.sum(shape(), shape(), shape());
            case 15: return g.mixed(shape(), shape());
            case 16: return g.parts(shape());
            case 17: return g.part(shape(), any());
            case 18: return g.normal(shape(), any(), any());
            case 19: return g.reflexive(shape());
            case 20: return g.dual(shape(), shape());
            case 21: return g.between(coordinate(), coordinate(), coordinate(), coordinate());
            case 22: return g.ray(coordinate(), coordinate(), coordinate(), coordinate(), any(), any());
            case 23: return g.cuts(shape(), any());
            case 24: return g.cut(shape(), any(), any());
            case 25: return g.flips(shape(), any());
            case 26: return g.height(shape(), any(), any());
            case 27: return g.pieces(shape(), any());
            case 28: return g.piece(shape(), any(), any());
            default: return g.map(shape(), shape(), any(), any(), any(), any(), any(), any());
        }
    }

    /** Whether a call with this answer may have changed something: of clear, add, map, sum, dual, height, if not refused. */
    private static boolean mayChange(int which, long answer) {
        if (which == 26) {
            return answer != NO;
        }
        boolean makes = which == 0 || which == 1 || which == 10 || which == 14 || which == 20 || which == 29;
        return makes && answer >= 0;
    }

    private static void testState() {
        int refused = 0;
        for (int run = 0; run < 60; run++) {
            GridPolygons g = new GridPolygons();
            String before = told(g);
            for (int i = 0; i < 400; i++) {
                int which = next(3) == 0 ? 1 : next(30);
                long answer = call(g, which);
                String after = told(g);
                refused += mayChange(which, 0) && answer < 0 ? 1 : 0;
                if (!mayChange(which, answer) && !after.equals(before)) {
                    fault("call " + which + " answered " + answer + " and changed " + before + " to " + after);
                }
                before = after;
            }
        }
        if (refused < 500) {
            fault("too few calls were refused: " + refused);
        }
    }

    private static void testAnyNumbers() {
        for (int run = 0; run < 400; run++) {
            GridPolygons g = new GridPolygons();
            for (int i = 0; i < 512; i++) {
                call(g, next(3) == 0 ? 1 : next(30));
            }
        }
    }

    /** The same calls answer the same, whether other calls come between or not. */
    private static void testReaders() {
        for (int run = 0; run < 60; run++) {
            GridPolygons quiet = new GridPolygons();
            GridPolygons busy = new GridPolygons();
            for (int i = 0; i < 400; i++) {
                long from = seed;
                int which = next(3) == 0 ? 1 : next(30);
                long want = call(quiet, which);
                long after = seed;
                for (int k = 0; k < 3; k++) {
                    int reader = next(29);
                    if (!mayChange(reader, 0)) {
                        call(busy, reader);
                    }
                }
                seed = from;
                which = next(3) == 0 ? 1 : next(30);
                long got = call(busy, which);
                seed = after;
                due("call " + which + " after others", got, want);
            }
        }
    }

    public static void main(String[] args) {
        testAnyNumbers();
        testState();
        testReaders();
        end("no call threw, no refused one changed anything");
    }
}
