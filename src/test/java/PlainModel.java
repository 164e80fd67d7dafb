import java.util.ArrayList;
import java.util.List;

/**
 * The document once more, word by word and as slow as it comes: every call works out the target,
 * the mask and the image from nothing. It shares no code and no way of holding things with the class.
 */
final class PlainModel {
    private static final int N = 48;

    private static final class Poly {
        final List<int[]> corners = new ArrayList<>();
        boolean closed;

        boolean covers(int cx, int cy) {
            if (!closed) {
                return false;
            }
            int passing = 0;
            for (int i = 0; i < corners.size(); i++) {
                int[] p = corners.get(i);
                int[] q = corners.get((i + 1) % corners.size());
                boolean goesBy = p[1] <= cy && cy < q[1] || q[1] <= cy && cy < p[1];
                passing += p[0] == q[0] && p[0] <= cx && goesBy ? 1 : 0;
            }
            return passing % 2 == 1;
        }
    }

    private record Side(Poly poly, int x0, int y0, int x1, int y1) {
        boolean alongX() {
            return y0 == y1;
        }

        int length() {
            return Math.abs(x1 - x0) + Math.abs(y1 - y0);
        }
    }

    private static final class Part {
        Side side;
        int index;
        int of;
        int dx;
        int dy;
        int inX;
        int inY;
        int a;
        int b;
        int move;

        boolean flat() {
            return dx == 0 && dy == 0;
        }
    }

    private final List<Poly> polys = new ArrayList<>();
    private final List<int[]> kernels = new ArrayList<>();
    private List<Part> parts = new ArrayList<>();
    private final List<List<int[]>> bars = new ArrayList<>();
    private List<Integer> worsts = new ArrayList<>();
    private long threshold = 1;

    int polygon() {
        if (!parts.isEmpty()) {
            return -3;
        }
        if (polys.size() == 4) {
            return -4;
        }
        polys.add(new Poly());
        return polys.size() - 1;
    }

    boolean corner(int polygon, long x, long y) {
        if (polygon < 0 || polygon >= polys.size() || !parts.isEmpty()) {
            return false;
        }
        Poly p = polys.get(polygon);
        if (p.closed || x < 0 || y < 0 || x > N || y > N) {
            return false;
        }
        int n = p.corners.size();
        if (n > 0) {
            int[] last = p.corners.get(n - 1);
            boolean alongX = last[1] == y && last[0] != x;
            boolean alongY = last[0] == x && last[1] != y;
            if (!alongX && !alongY) {
                return false;
            }
            if (n > 1 && alongX == (p.corners.get(n - 2)[1] == last[1])) {
                return false;
            }
            int[] first = p.corners.get(0);
            if (n > 3 && first[0] == x && first[1] == y) {
                if (alongX == (first[1] == p.corners.get(1)[1])) {
                    return false;
                }
                p.closed = true;
                return true;
            }
        }
        if (n == 16) {
            return false;
        }
        p.corners.add(new int[] {(int) x, (int) y});
        return true;
    }

    int kernel(int weight, int width) {
        if (Math.abs((long) weight) > 20 || width < 0 || width > 6) {
            return -2;
        }
        if (kernels.size() == 6) {
            return -4;
        }
        kernels.add(new int[] {weight, width});
        return kernels.size() - 1;
    }

    int cut(int length) {
        if (length < 1 || length > 48) {
            return -2;
        }
        List<Part> fresh = new ArrayList<>();
        for (Side side : sides()) {
            int n = 1;
            while (n * length < side.length()) {
                n++;
            }
            for (int i = 0; i < n; i++) {
                fresh.add(part(side, i, n));
            }
        }
        if (fresh.isEmpty()) {
            return -3;
        }
        if (fresh.size() > 120) {
            return -4;
        }
        parts = fresh;
        return parts.size();
    }

    private List<Side> sides() {
        List<Side> all = new ArrayList<>();
        for (Poly p : polys) {
            for (int i = 0; p.closed && i < p.corners.size(); i++) {
                int[] from = p.corners.get(i);
                int[] to = p.corners.get((i + 1) % p.corners.size());
                all.add(new Side(p, from[0], from[1], to[0], to[1]));
            }
        }
        return all;
    }

    private Part part(Side s, int i, int n) {
        Part part = new Part();
        part.side = s;
        part.index = i;
        part.of = n;
        int g = s.length() * i / n;
        int h = s.length() * (i + 1) / n;
        int sx = Integer.signum(s.x1() - s.x0());
        int sy = Integer.signum(s.y1() - s.y0());
        int from = s.alongX() ? s.x0() + sx * g : s.y0() + sy * g;
        int to = s.alongX() ? s.x0() + sx * h : s.y0() + sy * h;
        part.a = Math.min(from, to);
        part.b = Math.max(from, to);
        int mid = (part.a + part.b - 1) / 2;
        int[] one = s.alongX() ? new int[] {mid, s.y0() - 1} : new int[] {s.x0() - 1, mid};
        int[] two = s.alongX() ? new int[] {mid, s.y0()} : new int[] {s.x0(), mid};
        boolean oneIn = s.poly().covers(one[0], one[1]);
        boolean twoIn = s.poly().covers(two[0], two[1]);
        if (oneIn && !twoIn) {
            face(part, one, two);
        }
        if (twoIn && !oneIn) {
            face(part, two, one);
        }
        return part;
    }

    private static void face(Part part, int[] in, int[] out) {
        part.inX = in[0];
        part.inY = in[1];
        part.dx = out[0] - in[0];
        part.dy = out[1] - in[1];
    }

    private boolean inTarget(int x, int y) {
        if (x < 0 || y < 0 || x >= N || y >= N) {
            return false;
        }
        for (Poly p : polys) {
            if (p.covers(x, y)) {
                return true;
            }
        }
        return false;
    }

    private boolean[][] mask() {
        boolean[][] mask = new boolean[N][N];
        for (int x = 0; x < N; x++) {
            for (int y = 0; y < N; y++) {
                mask[x][y] = inTarget(x, y);
            }
        }
        for (Part p : parts) {
            for (int row = 0; row < Math.abs(p.move); row++) {
                for (int along = p.a; along < p.b; along++) {
                    int far = p.move > 0 ? row + 1 : -row;
                    int x = p.side.alongX() ? along : p.inX + p.dx * far;
                    int y = p.side.alongX() ? p.inY + p.dy * far : along;
                    if (x >= 0 && y >= 0 && x < N && y < N) {
                        mask[x][y] = p.move > 0;
                    }
                }
            }
        }
        for (List<int[]> bar : bars) {
            for (int[] cell : bar) {
                mask[cell[0]][cell[1]] = true;
            }
        }
        return mask;
    }

    private int[][] imageOf(boolean[][] mask) {
        int[][] image = new int[N][N];
        for (int[] k : kernels) {
            for (int mx = 0; mx < N; mx++) {
                for (int my = 0; my < N; my++) {
                    for (int dx = -k[1]; mask[mx][my] && dx <= k[1]; dx++) {
                        for (int dy = -k[1]; dy <= k[1]; dy++) {
                            if (mx + dx >= 0 && my + dy >= 0 && mx + dx < N && my + dy < N) {
                                image[mx + dx][my + dy] += k[0];
                            }
                        }
                    }
                }
            }
        }
        return image;
    }

    private boolean shows(int[][] image, int x, int y, int dose) {
        return (long) image[x][y] * dose >= 100L * threshold;
    }

    int image(int x, int y) {
        return x < 0 || y < 0 || x >= N || y >= N ? 0 : imageOf(mask())[x][y];
    }

    private int errorAt(int[][] image, Part p, int dose) {
        if (p.flat()) {
            return 0;
        }
        if (shows(image, p.inX, p.inY, dose)) {
            int good = 0;
            for (int far = 1; far <= 8; far++) {
                int x = p.inX + far * p.dx;
                int y = p.inY + far * p.dy;
                if (x < 0 || y < 0 || x >= N || y >= N || !shows(image, x, y, dose)) {
                    return good;
                }
                good++;
            }
            return good;
        }
        int bad = 0;
        for (int far = 0; far < 8; far++) {
            int x = p.inX - far * p.dx;
            int y = p.inY - far * p.dy;
            if (x < 0 || y < 0 || x >= N || y >= N || shows(image, x, y, dose)) {
                return bad;
            }
            bad--;
        }
        return bad;
    }

    int error(int piece) {
        return edge(piece, 100);
    }

    int edge(int piece, int dose) {
        if (piece < 0 || piece >= parts.size() || dose < 1 || dose > 1000) {
            return 0;
        }
        return errorAt(imageOf(mask()), parts.get(piece), dose);
    }

    private int worstNow() {
        int[][] image = imageOf(mask());
        int worst = 0;
        for (Part p : parts) {
            worst = Math.max(worst, Math.abs(errorAt(image, p, 100)));
        }
        return worst;
    }

    int run(int rounds, int t, int step, int limit) {
        if (rounds < 1 || rounds > 20 || t < 1 || t > 100000) {
            return -2;
        }
        if (step < 1 || step > 4 || limit < 1 || limit > 6) {
            return -2;
        }
        if (parts.isEmpty()) {
            return -3;
        }
        threshold = t;
        worsts = new ArrayList<>();
        worsts.add(worstNow());
        for (int round = 1; round <= rounds; round++) {
            int before = worsts.get(round - 1);
            if (before == 0 || !oneRound(step, limit, before)) {
                return round - 1;
            }
            worsts.add(worstNow());
        }
        return rounds;
    }

    private boolean oneRound(int step, int limit, int before) {
        int[][] image = imageOf(mask());
        int[] old = new int[parts.size()];
        boolean other = false;
        for (int i = 0; i < old.length; i++) {
            Part p = parts.get(i);
            old[i] = p.move;
            if (p.flat()) {
                continue;
            }
            int e = errorAt(image, p, 100);
            int by = e > step ? step : e < -step ? -step : e;
            int next = p.move - by;
            p.move = next > limit ? limit : next < -limit ? -limit : next;
            other |= p.move != old[i];
        }
        if (other && worstNow() <= before) {
            return true;
        }
        for (int i = 0; i < old.length; i++) {
            parts.get(i).move = old[i];
        }
        return false;
    }

    int moved(int piece) {
        return piece < 0 || piece >= parts.size() ? 0 : parts.get(piece).move;
    }

    int worst(int round) {
        return round < 0 || round >= worsts.size() ? -1 : worsts.get(round);
    }

    int helper(int space, int width) {
        if (space < 1 || space > 8 || width < 1 || width > 4) {
            return -2;
        }
        if (parts.isEmpty()) {
            return -3;
        }
        int more = 0;
        for (Part p : parts) {
            if (p.index != 0 || p.flat() || p.side.length() < 6 || bars.size() == 24) {
                continue;
            }
            List<int[]> bar = barBeside(p, space, width);
            if (bar != null) {
                bars.add(bar);
                more++;
            }
        }
        return more;
    }

    private List<int[]> barBeside(Part p, int space, int width) {
        Side s = p.side;
        int low = s.alongX() ? Math.min(s.x0(), s.x1()) : Math.min(s.y0(), s.y1());
        List<int[]> bar = new ArrayList<>();
        for (int far = space + 1; far <= space + width; far++) {
            for (int along = low + 1; along < low + s.length() - 1; along++) {
                int x = s.alongX() ? along : p.inX + p.dx * far;
                int y = s.alongX() ? p.inY + p.dy * far : along;
                if (x < 0 || y < 0 || x >= N || y >= N || inTarget(x, y) || inBar(x, y)) {
                    return null;
                }
                bar.add(new int[] {x, y});
            }
        }
        return bar;
    }

    private boolean inBar(int x, int y) {
        for (List<int[]> bar : bars) {
            for (int[] cell : bar) {
                if (cell[0] == x && cell[1] == y) {
                    return true;
                }
            }
        }
        return false;
    }

    boolean prints(int bar, int dose) {
        if (bar < 0 || bar >= bars.size() || dose < 1 || dose > 1000) {
            return false;
        }
        int[][] image = imageOf(mask());
        for (int[] cell : bars.get(bar)) {
            if (shows(image, cell[0], cell[1], dose)) {
                return true;
            }
        }
        return false;
    }

    boolean alike(int a, int b) {
        if (a < 0 || b < 0 || a >= parts.size() || b >= parts.size()) {
            return false;
        }
        Part p = parts.get(a);
        Part q = parts.get(b);
        if (p.flat() || q.flat() || p.dx != q.dx || p.dy != q.dy) {
            return false;
        }
        int same = 0;
        for (int dx = -4; dx <= 4; dx++) {
            for (int dy = -4; dy <= 4; dy++) {
                same += inTarget(p.inX + dx, p.inY + dy) == inTarget(q.inX + dx, q.inY + dy) ? 1 : 0;
            }
        }
        return same == 81;
    }

    int shift(int rule, int v) {
        if (rule < 0 || rule > 3 || v < -6 || v > 6) {
            return -2;
        }
        if (parts.isEmpty()) {
            return -3;
        }
        int others = 0;
        for (Part p : parts) {
            boolean fits = rule == 0 || rule == 1 && p.side.alongX() || rule == 2 && !p.side.alongX()
                || rule == 3 && (p.index == 0 || p.index == p.of - 1);
            if (fits && !p.flat()) {
                int next = Math.min(6, Math.max(-6, p.move + v));
                others += next != p.move ? 1 : 0;
                p.move = next;
            }
        }
        return others;
    }

    boolean is(int x, int y, int what) {
        if (x < 0 || y < 0 || x >= N || y >= N) {
            return false;
        }
        return what == 0 ? inTarget(x, y)
            : what == 1 ? mask()[x][y]
            : what == 2 && shows(imageOf(mask()), x, y, 100);
    }
}
