import java.util.ArrayList;
import java.util.Arrays;
import java.util.HashMap;
import java.util.List;
import java.util.Map;
import java.util.TreeSet;

// Many small shapes; each call is compared with an answer that is found in another, plainer way.
public final class OracleTest extends Checks {
    private static long seed = 20261118;

    /** 0 .. below - 1, the same in each run. */
    private static int next(int below) {
        seed = seed * 6364136223846793005L + 1442695040888963407L;
        return (int) ((seed >>> 33) % below);
    }

    private static int next(int from, int to) {
        return from + next(to - from + 1);
    }

    private static int gcd(int a, int b) {
        return b == 0 ? Math.abs(a) : gcd(b, a % b);
    }

    private static int cross(int[] a, int[] b, int[] c) {
        return (b[0] - a[0]) * (c[1] - a[1]) - (b[1] - a[1]) * (c[0] - a[0]);
    }

    private static int compare(int[] a, int[] b) {
        return a[0] != b[0] ? Integer.compare(a[0], b[0]) : Integer.compare(a[1], b[1]);
    }

    private static boolean same(int[] a, int[] b) {
        return a[0] == b[0] && a[1] == b[1];
    }

    // ---- hulls, by going round from the least point to the one that has no other to its right

    private static List<int[]> hull(List<int[]> points) {
        List<int[]> corners = new ArrayList<>();
        if (points.isEmpty()) {
            return corners;
        }
        int[] start = points.get(0);
        for (int[] p : points) {
            if (compare(p, start) < 0) {
                start = p;
            }
        }
        int[] at = start;
        for (int i = 0; i < 1000; i++) {
            corners.add(at);
            int[] to = at;
            for (int[] p : points) {
                if (same(p, at)) {
                    continue;
                }
                int turn = same(to, at) ? -1 : cross(at, to, p);
                if (turn < 0 || turn == 0 && far(at, p) > far(at, to)) {
                    to = p;
                }
            }
            at = to;
            if (same(at, start)) {
                break;
            }
        }
        return corners;
    }

    private static int far(int[] a, int[] b) {
        return (a[0] - b[0]) * (a[0] - b[0]) + (a[1] - b[1]) * (a[1] - b[1]);
    }

    private static int twiceArea(List<int[]> corners) {
        int area = 0;
        for (int i = 1; i + 1 < corners.size(); i++) {
            area += cross(corners.get(0), corners.get(i), corners.get(i + 1));
        }
        return area;
    }

    private static List<int[]> cornersOf(GridPolygons g, int shape) {
        List<int[]> corners = new ArrayList<>();
        for (int i = 0; i < g.corners(shape); i++) {
            corners.add(new int[] {g.corner(shape, i, 0), g.corner(shape, i, 1)});
        }
        return corners;
    }

    private static void dueCorners(String call, GridPolygons g, int shape, List<int[]> want) {
        due(call + ": how many CORNERS", g.corners(shape), want.size());
        List<int[]> got = cornersOf(g, shape);
        for (int i = 0; i < Math.min(got.size(), want.size()); i++) {
            due(call + ": x of CORNER " + i, got.get(i)[0], want.get(i)[0]);
            due(call + ": y of CORNER " + i, got.get(i)[1], want.get(i)[1]);
        }
    }

    /** 0 outside, 1 on the edge, 2 inside, from the hull that the point would make: it is outside if that is greater. */
    private static int standing(List<int[]> corners, int x, int y) {
        int[] p = {x, y};
        if (corners.size() < 3) {
            if (corners.isEmpty()) {
                return 0;
            }
            int[] a = corners.get(0);
            int[] b = corners.get(corners.size() - 1);
            boolean on = cross(a, b, p) == 0 && (p[0] - a[0]) * (p[0] - b[0]) + (p[1] - a[1]) * (p[1] - b[1]) <= 0;
            return on ? 1 : 0;
        }
        boolean edge = false;
        for (int i = 0; i < corners.size(); i++) {
            int turn = cross(corners.get(i), corners.get((i + 1) % corners.size()), p);
            if (turn < 0) {
                return 0;
            }
            edge |= turn == 0;
        }
        return edge ? 1 : 2;
    }

    private static List<int[]> allPoints(List<int[]> corners, int reach) {
        List<int[]> points = new ArrayList<>();
        for (int x = -reach; x <= reach; x++) {
            for (int y = -reach; y <= reach; y++) {
                if (standing(corners, x, y) > 0) {
                    points.add(new int[] {x, y});
                }
            }
        }
        return points;
    }

    private static void makeSome(GridPolygons g, int shape, int points, int reach) {
        g.clear(shape);
        for (int i = 0; i < points; i++) {
            g.add(shape, next(-reach, reach), next(-reach, reach));
        }
    }

    private static void testHulls() {
        for (int run = 0; run < 300; run++) {
            GridPolygons g = new GridPolygons();
            int reach = run % 5 == 0 ? 40 : 1 + next(8);
            List<int[]> points = new ArrayList<>();
            for (int i = 0; i < 14; i++) {
                int[] p = {next(-reach, reach), next(-reach, reach)};
                points.add(p);
                List<int[]> corners = hull(points);
                due("add", g.add(0, p[0], p[1]), corners.size());
                if (i % 3 == 0) {
                    dueCorners("add", g, 0, corners);
                }
            }
        }
        testFull();
    }

    /** Points of the grid's greatest circle: hulls of up to 24 corners, and more, which are refused. */
    private static void testFull() {
        int refused = 0;
        for (int run = 0; run < 40; run++) {
            GridPolygons g = new GridPolygons();
            List<int[]> points = new ArrayList<>();
            for (int i = 0; i < 100; i++) {
                int x = next(-40, 40);
                int y = (2 * next(2) - 1) * (int) Math.sqrt(1600 - x * x);
                int[] p = next(2) == 0 ? new int[] {x, y} : new int[] {y, x};
                points.add(p);
                List<int[]> corners = hull(points);
                if (corners.size() > 24) {
                    due("add of a 25th CORNER", g.add(0, p[0], p[1]), FULL);
                    points.remove(points.size() - 1);
                    refused++;
                    dueCorners("refused add", g, 0, hull(points));
                } else {
                    due("add near a circle", g.add(0, p[0], p[1]), corners.size());
                }
            }
            testWideParts(g, cornersOf(g, 0));
        }
        due("some were FULL", refused > 100 ? 1 : 0, 1);
    }

    /** By place and whether anything is taken: how many choices lead there, and the best of them. */
    private static final class Led {
        long choices;
        int steps = Integer.MAX_VALUE;
        int[] taken;

        void weigh(int all, int[] from, int side, int k) {
            int[] now = from.clone();
            now[side] = k;
            if (all < steps || all == steps && Arrays.compare(now, taken) < 0) {
                steps = all;
                taken = now;
            }
        }
    }

    private static void testWideParts(GridPolygons g, List<int[]> corners) {
        int n = corners.size();
        Map<Integer, Led> here = new HashMap<>();
        Led none = new Led();
        none.choices = 1;
        none.weigh(0, new int[n], 0, 0);
        here.put(0, none);
        for (int i = 0; i < n; i++) {
            int[] a = corners.get(i);
            int[] b = corners.get((i + 1) % n);
            int most = gcd(b[0] - a[0], b[1] - a[1]);
            int step = (b[0] - a[0]) / most * 1000 + (b[1] - a[1]) / most;
            Map<Integer, Led> there = new HashMap<>();
            for (Map.Entry<Integer, Led> e : here.entrySet()) {
                for (int k = 0; k <= most; k++) {
                    // Twice the place, and 1 if anything is taken.
                    int to = e.getKey() + 2 * k * step | (k > 0 ? 1 : 0);
                    Led led = there.computeIfAbsent(to, at -> new Led());
                    led.choices += e.getValue().choices;
                    led.weigh(e.getValue().steps + k, e.getValue().taken, i, k);
                }
            }
            here = there;
        }
        due("parts of a wide one", g.parts(0), 1 + here.get(1).choices);
        due("part of a wide one, all", g.part(0, -1), here.get(1).steps);
        for (int i = 0; i < n; i++) {
            due("part of a wide one, SIDE " + i, g.part(0, i), here.get(1).taken[i]);
        }
    }

    private static void testCounts() {
        for (int run = 0; run < 300; run++) {
            GridPolygons g = new GridPolygons();
            int reach = 1 + next(7);
            makeSome(g, 3, next(7), reach);
            List<int[]> corners = cornersOf(g, 3);
            List<int[]> all = allPoints(corners, reach + 1);
            int edge = 0;
            int inside = 0;
            for (int x = -reach - 1; x <= reach + 1; x++) {
                for (int y = -reach - 1; y <= reach + 1; y++) {
                    int at = standing(corners, x, y);
                    due("where", g.where(3, x, y), at);
                    edge += at == 1 ? 1 : 0;
                    inside += at == 2 ? 1 : 0;
                }
            }
            due("AREA", g.points(3, 0), twiceArea(corners));
            due("EDGE", g.points(3, 1), edge);
            due("INSIDE", g.points(3, 2), inside);
            due("ALL", g.points(3, 3), edge + inside);
            for (int i = 0; i < all.size(); i++) {
                due("point, x", g.point(3, i, 0), all.get(i)[0]);
                due("point, y", g.point(3, i, 1), all.get(i)[1]);
            }
            due("point behind the last", g.point(3, all.size(), 0), NO);
            for (int n = 0; n <= 4; n++) {
                testTimes(g, corners, n, reach);
            }
        }
    }

    private static void testTimes(GridPolygons g, List<int[]> corners, int n, int reach) {
        List<int[]> far = new ArrayList<>();
        for (int[] c : corners) {
            far.add(new int[] {n * c[0], n * c[1]});
        }
        List<int[]> many = hull(far);
        int all = 0;
        int inside = 0;
        for (int x = -n * reach; x <= n * reach; x++) {
            for (int y = -n * reach; y <= n * reach; y++) {
                int at = standing(many, x, y);
                all += at > 0 ? 1 : 0;
                inside += at == 2 ? 1 : 0;
            }
        }
        due(n + " TIMES, ALL", g.times(3, n, 0), all);
        due(n + " TIMES, INSIDE", g.times(3, n, 1), corners.size() < 3 ? NOT : inside);
    }

    private static int width(List<int[]> corners, int a, int b) {
        int least = Integer.MAX_VALUE;
        int greatest = Integer.MIN_VALUE;
        for (int[] c : corners) {
            least = Math.min(least, a * c[0] + b * c[1]);
            greatest = Math.max(greatest, a * c[0] + b * c[1]);
        }
        return greatest - least;
    }

    private static void testWidths() {
        for (int run = 0; run < 150; run++) {
            GridPolygons g = new GridPolygons();
            makeSome(g, 0, 2 + next(4), run % 10 == 0 ? 40 : 1 + next(6));
            List<int[]> corners = cornersOf(g, 0);
            int best = Integer.MAX_VALUE;
            int bestA = 0;
            int bestB = 0;
            for (int a = 0; a <= 100; a++) {
                for (int b = -100; b <= 100; b++) {
                    if (gcd(a, b) != 1 || a == 0 && b != 1) {
                        due("no WAY", g.width(0, a, b), -1);
                        continue;
                    }
                    int here = width(corners, a, b);
                    due("width", g.width(0, a, b), here);
                    if (here < best) {
                        best = here;
                        bestA = a;
                        bestB = b;
                    }
                }
            }
            boolean polygon = corners.size() > 2;
            due("LEAST WIDTH", g.least(0, 0), polygon ? best : NO);
            due("its a", g.least(0, 1), polygon ? bestA : NO);
            due("its b", g.least(0, 2), polygon ? bestB : NO);
        }
    }

    // ---- maps: all that take three corners to three corners, then the others must follow

    private static int countMaps(List<int[]> p, List<int[]> q) {
        if (p.size() != q.size()) {
            return 0;
        }
        int found = 0;
        for (int[] a : q) {
            for (int[] b : q) {
                for (int[] c : q) {
                    if (fits(p, q, a, b, c)) {
                        found++;
                    }
                }
            }
        }
        return found;
    }

    private static boolean fits(List<int[]> p, List<int[]> q, int[] a, int[] b, int[] c) {
        int[] o = p.get(0);
        int ux = p.get(1)[0] - o[0];
        int uy = p.get(1)[1] - o[1];
        int vx = p.get(2)[0] - o[0];
        int vy = p.get(2)[1] - o[1];
        int d = ux * vy - uy * vx;
        int[] m = new int[4];
        for (int k = 0; k < 2; k++) {
            int s = b[k] - a[k];
            int t = c[k] - a[k];
            int m0 = s * vy - t * uy;
            int m1 = t * ux - s * vx;
            if (m0 % d != 0 || m1 % d != 0) {
                return false;
            }
            m[2 * k] = m0 / d;
            m[2 * k + 1] = m1 / d;
        }
        if (Math.abs(m[0] * m[3] - m[1] * m[2]) != 1) {
            return false;
        }
        for (int[] r : p) {
            int x = m[0] * (r[0] - o[0]) + m[1] * (r[1] - o[1]) + a[0];
            int y = m[2] * (r[0] - o[0]) + m[3] * (r[1] - o[1]) + a[1];
            boolean there = false;
            for (int[] s : q) {
                there |= s[0] == x && s[1] == y;
            }
            if (!there) {
                return false;
            }
        }
        return true;
    }

    private static void testMaps() {
        int many = 0;
        for (int run = 0; run < 250; run++) {
            GridPolygons g = new GridPolygons();
            for (int shape = 0; shape < 8; shape++) {
                makeSome(g, shape, next(8) == 0 ? next(3) : 3 + next(3), 1 + next(3));
                if (next(3) == 0) {
                    int k = next(-3, 3);
                    int l = next(-3, 3);
                    int turn = next(2) * 2 - 1;
                    testMap(g, next(8), shape, new int[] {turn, turn * k, l, k * l + 1, next(-9, 9), next(-9, 9)});
                }
            }
            List<List<int[]>> heaps = new ArrayList<>();
            for (int shape = 0; shape < 8; shape++) {
                List<int[]> p = cornersOf(g, shape);
                boolean isNew = p.size() > 2;
                for (List<int[]> q : heaps) {
                    isNew &= countMaps(p, q) == 0;
                }
                if (isNew) {
                    heaps.add(p);
                }
                for (int other = 0; other < 8; other++) {
                    List<int[]> q = cornersOf(g, other);
                    boolean both = p.size() > 2 && q.size() > 2;
                    int maps = both ? countMaps(p, q) : NOT;
                    many += maps > 2 ? 1 : 0;
                    due("maps", g.maps(shape, other), maps);
                    int alike = both ? (maps > 0 ? 1 : 0) : p.size() == q.size() && g.points(shape, 3) == g.points(other, 3) ? 1 : 0;
                    due("alike", g.alike(shape, other), alike);
                }
            }
            due("heaps", g.heaps(), heaps.size());
        }
        due("some had many MAPS", many > 50 ? 1 : 0, 1);
    }

    private static void testMap(GridPolygons g, int shape, int to, int[] m) {
        List<int[]> points = new ArrayList<>();
        boolean beyond = false;
        for (int[] c : cornersOf(g, shape)) {
            int[] p = {m[0] * c[0] + m[1] * c[1] + m[4], m[2] * c[0] + m[3] * c[1] + m[5]};
            points.add(p);
            beyond |= Math.abs(p[0]) > 40 || Math.abs(p[1]) > 40;
        }
        List<int[]> want = beyond ? cornersOf(g, to) : hull(points);
        due("map", g.map(shape, to, m[0], m[1], m[2], m[3], m[4], m[5]), beyond ? FULL : want.size());
        dueCorners("map", g, to, want);
    }

    // ---- what a MAP leaves as it is, on shapes that it makes long and thin

    private static void testStretched() {
        int stretched = 0;
        for (int run = 0; run < 3000 && stretched < 300; run++) {
            GridPolygons g = new GridPolygons();
            makeSome(g, 0, 3 + next(4), 1 + next(3));
            int k = next(-12, 12);
            int l = next(-3, 3);
            int[] m = {1, k, l, k * l + 1, next(-20, 20), next(-20, 20)};
            if (Math.abs(k * l + 1) > 40 || g.corners(0) < 3 || g.map(0, 1, m[0], m[1], m[2], m[3], m[4], m[5]) < 0) {
                continue;
            }
            stretched++;
            for (int what = 0; what < 4; what++) {
                due("stretched, points", g.points(1, what), g.points(0, what));
                // FARTHEST (1) depends on which CUT is FIRST CUT, and so on the place of each POINT.
                due("stretched, cuts", what == 1 ? 0 : g.cuts(1, what), what == 1 ? 0 : g.cuts(0, what));
            }
            due("stretched, times", g.times(1, 1000, 1), g.times(0, 1000, 1));
            due("stretched, least", g.least(1, 0), g.least(0, 0));
            due("stretched, maps", g.maps(0, 1), g.maps(0, 0));
            due("stretched, parts", g.parts(1), g.parts(0));
            due("stretched, part", g.part(1, -1), g.part(0, -1));
            due("stretched, mixed", g.mixed(1, 1), g.mixed(0, 0));
            liftBoth(g, m);
        }
        due("enough were stretched", stretched == 300 ? 1 : 0, 1);
    }

    /** Gives each POINT and what the MAP makes of it the same HEIGHT, great ones too. */
    private static void liftBoth(GridPolygons g, int[] m) {
        int n = g.points(0, 3);
        if (n > 40) {
            return;
        }
        for (int i = 0; i < n; i++) {
            int x = g.point(0, i, 0);
            int y = g.point(0, i, 1);
            int v = next(3) == 0 ? 2000 * next(2) - 1000 : next(-1000, 1000);
            g.height(0, i, v);
            for (int k = 0; k < n; k++) {
                boolean same = g.point(1, k, 0) == m[0] * x + m[1] * y + m[4] && g.point(1, k, 1) == m[2] * x + m[3] * y + m[5];
                if (same) {
                    g.height(1, k, v);
                }
            }
        }
        for (int what = 0; what < 3; what++) {
            due("stretched, pieces", g.pieces(1, what), g.pieces(0, what));
        }
    }

    private static void testSums() {
        for (int run = 0; run < 300; run++) {
            GridPolygons g = new GridPolygons();
            int reach = run % 4 == 0 ? 25 : 1 + next(5);
            makeSome(g, 0, next(8), reach);
            makeSome(g, 1, next(8), reach);
            List<int[]> p = cornersOf(g, 0);
            List<int[]> q = cornersOf(g, 1);
            List<int[]> sums = new ArrayList<>();
            for (int[] a : reach < 10 ? allPoints(p, reach) : p) {
                for (int[] b : reach < 10 ? allPoints(q, reach) : q) {
                    sums.add(new int[] {a[0] + b[0], a[1] + b[1]});
                }
            }
            List<int[]> corners = hull(sums);
            due("mixed", g.mixed(0, 1), sums.isEmpty() ? 0 : twiceArea(corners) - twiceArea(p) - twiceArea(q));
            boolean full = corners.size() > 24;
            for (int[] c : corners) {
                full |= Math.abs(c[0]) > 40 || Math.abs(c[1]) > 40;
            }
            int to = next(3);
            List<int[]> before = cornersOf(g, to);
            due("sum", g.sum(0, 1, to), full ? FULL : corners.size());
            dueCorners("sum", g, to, full ? before : corners);
        }
    }

    // ---- parts, by going through all choices from the least one on

    private static void testParts() {
        int tried = 0;
        for (int run = 0; run < 4000 && tried < 500; run++) {
            GridPolygons g = new GridPolygons();
            makeSome(g, 0, 3 + next(5), 1 + next(5));
            if (next(3) == 0) {
                g.sum(0, 0, 0);
            }
            int more = next(4);
            for (int i = 0; i < more; i++) {
                makeSome(g, 1, 2 + next(2), 2);
                g.sum(0, 1, 0);
            }
            List<int[]> corners = cornersOf(g, 0);
            int n = corners.size();
            if (n < 3) {
                due("parts", g.parts(0), NOT);
                continue;
            }
            int[] most = new int[n];
            int[][] step = new int[n][2];
            long choices = 1;
            for (int i = 0; i < n; i++) {
                int[] a = corners.get(i);
                int[] b = corners.get((i + 1) % n);
                most[i] = gcd(b[0] - a[0], b[1] - a[1]);
                step[i][0] = (b[0] - a[0]) / most[i];
                step[i][1] = (b[1] - a[1]) / most[i];
                choices *= most[i] + 1;
            }
            if (choices > 300000) {
                continue;
            }
            tried++;
            checkChoices(g, most, step);
        }
        due("enough were tried", tried > 300 ? 1 : 0, 1);
    }

    private static void checkChoices(GridPolygons g, int[] most, int[][] step) {
        int n = most.length;
        int[] taken = new int[n];
        int[] best = null;
        int fewest = Integer.MAX_VALUE;
        long found = 0;
        while (true) {
            int x = 0;
            int y = 0;
            int all = 0;
            for (int i = 0; i < n; i++) {
                x += taken[i] * step[i][0];
                y += taken[i] * step[i][1];
                all += taken[i];
            }
            if (x == 0 && y == 0) {
                found++;
                if (all > 0 && all < fewest) {
                    fewest = all;
                    best = taken.clone();
                }
            }
            int i = n - 1;
            while (i >= 0 && taken[i] == most[i]) {
                taken[i] = 0;
                i--;
            }
            if (i < 0) {
                break;
            }
            taken[i]++;
        }
        due("parts", g.parts(0), found);
        due("part, all", g.part(0, -1), fewest);
        for (int i = 0; i < n; i++) {
            due("part, SIDE " + i, g.part(0, i), best[i]);
        }
    }

    private static void testDuals() {
        int reflexive = 0;
        for (int run = 0; run < 3000; run++) {
            GridPolygons g = new GridPolygons();
            makeSome(g, 0, 3 + next(4), 1 + next(3));
            if (next(4) == 0) {
                int k = next(-12, 12);
                g.map(0, 0, 1, k, 0, 1, 0, 0);
            }
            List<int[]> corners = cornersOf(g, 0);
            int n = corners.size();
            boolean round = n > 2 && standing(corners, 0, 0) == 2;
            boolean all = round;
            List<int[]> normals = new ArrayList<>();
            for (int i = 0; i < n; i++) {
                int[] a = corners.get(i);
                int[] b = corners.get((i + 1) % n);
                if (!round) {
                    due("normal of one that isn't ROUND", g.normal(0, i, 0), NO);
                    continue;
                }
                for (int s = -40; s <= 40; s++) {
                    for (int t = -40; t <= 40; t++) {
                        boolean right = s * (b[0] - a[0]) + t * (b[1] - a[1]) == 0;
                        if (right && gcd(s, t) == 1 && s * a[0] + t * a[1] > 0) {
                            due("normal, a", g.normal(0, i, 0), s);
                            due("normal, b", g.normal(0, i, 1), t);
                            due("normal, FAR", g.normal(0, i, 2), s * a[0] + t * a[1]);
                            all &= s * a[0] + t * a[1] == 1;
                            normals.add(new int[] {s, t});
                        }
                    }
                }
            }
            due("reflexive", g.reflexive(0), all ? 1 : 0);
            int to = next(2);
            List<int[]> before = cornersOf(g, to);
            if (all && normals.size() < n) {
                due("dual beyond the grid", g.dual(0, to), FULL);
                dueCorners("dual", g, to, before);
            } else {
                due("dual", g.dual(0, to), all ? hull(normals).size() : NOT);
                dueCorners("dual", g, to, all ? hull(normals) : before);
            }
            if (all && normals.size() == n) {
                reflexive++;
                due("twelve POINTS on both edges", edgeOf(corners) + edgeOf(cornersOf(g, to)), 12);
            }
        }
        due("some were REFLEXIVE", reflexive > 50 ? 1 : 0, 1);
    }

    private static int edgeOf(List<int[]> corners) {
        int edge = 0;
        for (int i = 0; i < corners.size(); i++) {
            int[] a = corners.get(i);
            int[] b = corners.get((i + 1) % corners.size());
            edge += gcd(b[0] - a[0], b[1] - a[1]);
        }
        return edge;
    }

    // ---- rays: the points of the angle that are not two others of it added

    private static void testRays() {
        GridPolygons g = new GridPolygons();
        int[] o = {0, 0};
        for (int run = 0; run < 400; run++) {
            int reach = 1 + next(12);
            int[] u = {next(-reach, reach), next(-reach, reach)};
            int[] v = {next(-reach, reach), next(-reach, reach)};
            if (cross(o, u, v) <= 0) {
                due("between", g.between(u[0], u[1], v[0], v[1]), NOT);
                due("ray", g.ray(u[0], u[1], v[0], v[1], 0, 0), NO);
                continue;
            }
            List<int[]> angle = new ArrayList<>();
            for (int x = -reach; x <= reach; x++) {
                for (int y = -reach; y <= reach; y++) {
                    int[] p = {x, y};
                    if ((x != 0 || y != 0) && isIn(u, v, p)) {
                        angle.add(p);
                    }
                }
            }
            List<int[]> least = new ArrayList<>();
            for (int[] p : angle) {
                boolean sum = false;
                for (int[] q : angle) {
                    int[] rest = {p[0] - q[0], p[1] - q[1]};
                    sum |= (rest[0] != 0 || rest[1] != 0) && isIn(u, v, rest);
                }
                if (!sum) {
                    least.add(p);
                }
            }
            least.sort((p, q) -> Integer.compare(0, cross(o, p, q)));
            checkRays(g, u, v, least);
        }
    }

    private static boolean isIn(int[] u, int[] v, int[] p) {
        return u[0] * p[1] - u[1] * p[0] >= 0 && p[0] * v[1] - p[1] * v[0] >= 0;
    }

    private static void checkRays(GridPolygons g, int[] u, int[] v, List<int[]> least) {
        int n = least.size();
        due("between", g.between(u[0], u[1], v[0], v[1]), n);
        for (int i = 0; i < n; i++) {
            int[] p = least.get(i);
            due("ray, x", g.ray(u[0], u[1], v[0], v[1], i, 0), p[0]);
            due("ray, y", g.ray(u[0], u[1], v[0], v[1], i, 1), p[1]);
            int bend = NO;
            if (i > 0 && i < n - 1) {
                int k = p[0] != 0 ? 0 : 1;
                bend = (least.get(i - 1)[k] + least.get(i + 1)[k]) / p[k];
            }
            due("ray, BEND", g.ray(u[0], u[1], v[0], v[1], i, 2), bend);
        }
        due("ray behind the last", g.ray(u[0], u[1], v[0], v[1], n, 0), NO);
    }

    /** On the whole grid: what is told of two next to one another, and of the ends. */
    private static void testWideRays() {
        GridPolygons g = new GridPolygons();
        int[] o = {0, 0};
        for (int run = 0; run < 400; run++) {
            int[] u = {next(-40, 40), next(-40, 40)};
            int[] v = {next(-40, 40), next(-40, 40)};
            int n = g.between(u[0], u[1], v[0], v[1]);
            if (cross(o, u, v) <= 0) {
                due("between", n, NOT);
                continue;
            }
            int[][] p = new int[n][2];
            for (int i = 0; i < n; i++) {
                p[i][0] = g.ray(u[0], u[1], v[0], v[1], i, 0);
                p[i][1] = g.ray(u[0], u[1], v[0], v[1], i, 1);
                due("in the angle", isIn(u, v, p[i]) ? 1 : 0, 1);
            }
            due("the first one on u", cross(o, u, p[0]) == 0 && gcd(p[0][0], p[0][1]) == 1 ? 1 : 0, 1);
            due("the last one on v", cross(o, v, p[n - 1]) == 0 && gcd(p[n - 1][0], p[n - 1][1]) == 1 ? 1 : 0, 1);
            for (int i = 1; i < n; i++) {
                due("cross product", cross(o, p[i - 1], p[i]), 1);
            }
            for (int i = 1; i + 1 < n; i++) {
                int bend = g.ray(u[0], u[1], v[0], v[1], i, 2);
                due("BEND is 2 at least", bend >= 2 ? 1 : 0, 1);
                due("BEND, x", p[i - 1][0] + p[i + 1][0], bend * p[i][0]);
                due("BEND, y", p[i - 1][1] + p[i + 1][1], bend * p[i][1]);
            }
        }
    }

    // ---- cuts: a flip is one segment for another, so that none cross

    private static boolean crosses(List<int[]> points, int s, int t) {
        int[] a = points.get(s / 16);
        int[] b = points.get(s % 16);
        int[] c = points.get(t / 16);
        int[] d = points.get(t % 16);
        return Integer.signum(cross(a, b, c)) * Integer.signum(cross(a, b, d)) < 0
                && Integer.signum(cross(c, d, a)) * Integer.signum(cross(c, d, b)) < 0;
    }

    private static List<Integer> segments(List<int[]> points) {
        List<Integer> all = new ArrayList<>();
        for (int a = 0; a < points.size(); a++) {
            for (int b = a + 1; b < points.size(); b++) {
                boolean free = true;
                for (int[] p : points) {
                    int[] u = points.get(a);
                    int[] v = points.get(b);
                    boolean end = same(p, u) || same(p, v);
                    free &= end || cross(u, v, p) != 0 || (p[0] - u[0]) * (p[0] - v[0]) + (p[1] - u[1]) * (p[1] - v[1]) > 0;
                }
                if (free) {
                    all.add(16 * a + b);
                }
            }
        }
        return all;
    }

    private static boolean crossesNone(List<int[]> points, int s, Iterable<Integer> others) {
        for (int t : others) {
            if (crosses(points, s, t)) {
                return false;
            }
        }
        return true;
    }

    private static long countCuts(List<int[]> points, List<Integer> all, int from, TreeSet<Integer> taken, int size) {
        if (taken.size() == size) {
            return 1;
        }
        if (from == all.size() || all.size() - from < size - taken.size()) {
            return 0;
        }
        long found = countCuts(points, all, from + 1, taken, size);
        int s = all.get(from);
        if (crossesNone(points, s, taken)) {
            taken.add(s);
            found += countCuts(points, all, from + 1, taken, size);
            taken.remove(s);
        }
        return found;
    }

    private static List<List<Integer>> flipsOf(List<int[]> points, List<Integer> all, List<Integer> cut) {
        List<List<Integer>> flips = new ArrayList<>();
        for (int s : cut) {
            TreeSet<Integer> others = new TreeSet<>(cut);
            others.remove(s);
            for (int t : all) {
                if (t != s && !others.contains(t) && crossesNone(points, t, others)) {
                    TreeSet<Integer> flip = new TreeSet<>(others);
                    flip.add(t);
                    flips.add(new ArrayList<>(flip));
                }
            }
        }
        return flips;
    }

    private static void testCuts() {
        int tried = 0;
        for (int run = 0; run < 20000 && tried < 60; run++) {
            GridPolygons g = new GridPolygons();
            makeSome(g, 0, 3 + next(4), 1 + next(3));
            List<int[]> corners = cornersOf(g, 0);
            List<int[]> points = allPoints(corners, 4);
            if (corners.size() < 3 || points.size() > 12) {
                due("cuts", g.cuts(0, next(4)), NOT);
                continue;
            }
            int count = g.cuts(0, 0);
            if (points.size() < 6 && next(4) > 0 || count > 400) {
                continue;
            }
            tried++;
            checkCuts(g, corners, points);
        }
        due("enough were tried", tried > 50 ? 1 : 0, 1);
    }

    private static void checkCuts(GridPolygons g, List<int[]> corners, List<int[]> points) {
        List<Integer> all = segments(points);
        List<Integer> first = new ArrayList<>();
        for (int s : all) {
            if (crossesNone(points, s, first)) {
                first.add(s);
            }
        }
        due("segments in each", g.cuts(0, 2), first.size());
        due("triangles", g.cuts(0, 3), twiceArea(corners));
        Map<List<Integer>, Integer> far = new HashMap<>();
        List<List<Integer>> cuts = new ArrayList<>();
        cuts.add(first);
        far.put(first, 0);
        int most = 0;
        for (int i = 0; i < cuts.size(); i++) {
            List<List<Integer>> flips = flipsOf(points, all, cuts.get(i));
            due("flips", g.flips(0, i), flips.size());
            most = far.get(cuts.get(i));
            for (List<Integer> flip : flips) {
                if (!far.containsKey(flip)) {
                    far.put(flip, most + 1);
                    cuts.add(flip);
                }
            }
        }
        due("how many CUTS", g.cuts(0, 0), cuts.size());
        if (points.size() < 10) {
            due("ALL CUTS come by FLIPS", cuts.size(), countCuts(points, all, 0, new TreeSet<>(), first.size()));
        }
        due("FARTHEST", g.cuts(0, 1), most);
        for (int i = 0; i < cuts.size(); i++) {
            due("HOW FAR", g.cut(0, i, -1), far.get(cuts.get(i)));
            for (int k = 0; k < first.size(); k++) {
                due("cut", g.cut(0, i, k), cuts.get(i).get(k));
            }
            due("cut behind the last segment", g.cut(0, i, first.size()), -1);
        }
        due("cut behind the last", g.cut(0, cuts.size(), 0), -1);
        due("flips behind the last", g.flips(0, cuts.size()), -1);
    }

    // ---- heights: a piece is where a plane (p x + q y + r, over d) touches from below

    private static void testPieces() {
        int tried = 0;
        for (int run = 0; run < 3000 && tried < 250; run++) {
            GridPolygons g = new GridPolygons();
            makeSome(g, 2, 3 + next(4), 1 + next(4));
            List<int[]> corners = cornersOf(g, 2);
            List<int[]> points = allPoints(corners, 5);
            if (corners.size() < 3 || points.size() > 40) {
                due("pieces", g.pieces(2, next(3)), NOT);
                due("height", g.height(2, 0, 0), NO);
                continue;
            }
            tried++;
            int[] heights = new int[points.size()];
            int high = next(4) == 0 ? 1000 : 1 + next(5);
            for (int change = 0; change < 3; change++) {
                for (int i = 0; i < points.size(); i++) {
                    int[] p = points.get(i);
                    int bowl = change == 2 ? p[0] * p[0] + 2 * p[1] * p[1] + p[0] * p[1] : 0;
                    int v = Math.max(-1000, Math.min(1000, bowl + next(-high, high)));
                    due("height", g.height(2, i, v), heights[i]);
                    heights[i] = v;
                }
                checkPieces(g, points, heights);
            }
        }
        due("enough were tried", tried > 200 ? 1 : 0, 1);
    }

    private static boolean comesFirst(TreeSet<Integer> a, TreeSet<Integer> b) {
        for (int i = 0; i < 40; i++) {
            if (a.contains(i) != b.contains(i)) {
                return a.contains(i);
            }
        }
        return false;
    }

    private static void checkPieces(GridPolygons g, List<int[]> points, int[] heights) {
        int n = points.size();
        List<TreeSet<Integer>> pieces = new ArrayList<>();
        for (int i = 0; i < n; i++) {
            for (int j = 0; j < n; j++) {
                for (int k = 0; k < n; k++) {
                    long d = cross(points.get(i), points.get(j), points.get(k));
                    TreeSet<Integer> piece = d > 0 ? touching(points, heights, i, j, k, d) : null;
                    if (piece != null && !pieces.contains(piece)) {
                        pieces.add(piece);
                    }
                }
            }
        }
        pieces.sort((a, b) -> comesFirst(a, b) ? -1 : comesFirst(b, a) ? 1 : 0);
        due("pieces", g.pieces(2, 0), pieces.size());
        TreeSet<Integer> seen = new TreeSet<>();
        int triangles = 0;
        for (int i = 0; i < pieces.size(); i++) {
            seen.addAll(pieces.get(i));
            List<Integer> piece = new ArrayList<>(pieces.get(i));
            due("piece, how many", g.piece(2, i, -1), piece.size());
            List<int[]> its = new ArrayList<>();
            for (int k = 0; k < piece.size(); k++) {
                due("piece", g.piece(2, i, k), piece.get(k));
                its.add(points.get(piece.get(k)));
            }
            due("piece behind its last", g.piece(2, i, piece.size()), -1);
            triangles += twiceArea(hull(its)) == 1 ? 1 : 0;
        }
        due("piece behind the last", g.piece(2, pieces.size(), -1), -1);
        due("SEEN", g.pieces(2, 1), seen.size());
        due("triangles", g.pieces(2, 2), triangles);
    }

    private static TreeSet<Integer> touching(List<int[]> points, int[] heights, int i, int j, int k, long d) {
        int[] a = points.get(i);
        int[] b = points.get(j);
        int[] c = points.get(k);
        long p = (long) (heights[j] - heights[i]) * (c[1] - a[1]) - (long) (heights[k] - heights[i]) * (b[1] - a[1]);
        long q = (long) (heights[k] - heights[i]) * (b[0] - a[0]) - (long) (heights[j] - heights[i]) * (c[0] - a[0]);
        TreeSet<Integer> on = new TreeSet<>();
        for (int m = 0; m < points.size(); m++) {
            long plane = p * (points.get(m)[0] - a[0]) + q * (points.get(m)[1] - a[1]) + d * heights[i];
            if (d * heights[m] < plane) {
                return null;
            }
            if (d * heights[m] == plane) {
                on.add(m);
            }
        }
        return on;
    }

    public static void main(String[] args) {
        testHulls();
        testCounts();
        testWidths();
        testMaps();
        testStretched();
        testSums();
        testParts();
        testDuals();
        testRays();
        testWideRays();
        testCuts();
        testPieces();
        end("all answers are as found otherwise");
    }
}
