/**
 * Masks that print what they should: polygons whose sides are cut in pieces, the image of the mask
 * by kernels, and rounds that move the pieces against the errors of what prints.
 *
 * <p>The words CELL, PIECE, MOVE, OUTWARD, FLAT and their like are those of the document.
 */
public final class MaskEdges {
    private static final int CELLS = 48;
    private static final int MOST_POLYGONS = 4;
    private static final int MOST_CORNERS = 16;
    private static final int LEAST_CORNERS = 4;
    private static final int MOST_KERNELS = 6;
    private static final int MOST_WEIGHT = 20;
    private static final int MOST_WIDTH = 6;
    private static final int MOST_PIECES = 120;
    private static final int MOST_ERROR = 8;
    private static final int MOST_ROUNDS = 20;
    private static final int MOST_THRESHOLD = 100_000;
    private static final int MOST_STEP = 4;
    private static final int MOST_MOVE = 6;
    private static final int MOST_BARS = 24;
    private static final int MOST_BAR_SPACE = 8;
    private static final int MOST_BAR_WIDTH = 4;
    private static final int LEAST_BAR_SIDE = 6;
    private static final int PLAIN_DOSE = 100;
    private static final int MOST_DOSE = 1000;
    private static final int ALIKE_REACH = 4;

    private static final int RULE_ALL = 0;
    private static final int RULE_ALONG_X = 1;
    private static final int RULE_ALONG_Y = 2;
    private static final int RULE_ENDS = 3;

    private static final int IN_TARGET = 0;
    private static final int IN_MASK = 1;
    private static final int IN_PRINT = 2;

    private static final int UNKNOWN = -1;
    private static final int OUT_OF_RANGE = -2;
    private static final int WRONG_STATE = -3;
    private static final int NO_ROOM = -4;

    private final Outline[] outlines = new Outline[MOST_POLYGONS];
    private int outlineCount;
    private final Piece[] pieces = new Piece[MOST_PIECES];
    private int pieceCount;
    private final int[] movesBefore = new int[MOST_PIECES];
    private final Box[] bars = new Box[MOST_BARS];
    private int barCount;
    private final CellSet target = new CellSet();
    private final CellSet barCells = new CellSet();
    private final CellSet mask = new CellSet();
    private final Exposure exposure = new Exposure();
    private final int[] worsts = new int[MOST_ROUNDS + 1];
    private int worstCount;
    private final Box box = new Box();

    public MaskEdges() {
        for (int i = 0; i < MOST_POLYGONS; i++) {
            outlines[i] = new Outline();
        }
        for (int i = 0; i < MOST_PIECES; i++) {
            pieces[i] = new Piece();
        }
        for (int i = 0; i < MOST_BARS; i++) {
            bars[i] = new Box();
        }
    }

    public int polygon() {
        if (pieceCount > 0) {
            return WRONG_STATE;
        }
        if (outlineCount >= MOST_POLYGONS) {
            return NO_ROOM;
        }
        outlineCount++;
        return outlineCount - 1;
    }

    public boolean corner(int polygon, long x, long y) {
        if (polygon < 0 || polygon >= outlineCount || pieceCount > 0) {
            return false;
        }
        if (x < 0 || x > CELLS || y < 0 || y > CELLS) {
            return false;
        }
        Outline outline = outlines[polygon];
        boolean taken = outline.takeCorner((int) x, (int) y);
        if (taken && outline.closed) {
            addToTarget(outline);
            renewMask();
        }
        return taken;
    }

    public int kernel(int weight, int width) {
        if (!within(weight, -MOST_WEIGHT, MOST_WEIGHT) || !within(width, 0, MOST_WIDTH)) {
            return OUT_OF_RANGE;
        }
        return exposure.addKernel(weight, width);
    }

    public int cut(int length) {
        if (!within(length, 1, CELLS)) {
            return OUT_OF_RANGE;
        }
        int wanted = piecesFor(length);
        if (wanted == 0) {
            return WRONG_STATE;
        }
        if (wanted > MOST_PIECES) {
            return NO_ROOM;
        }
        pieceCount = 0;
        for (int i = 0; i < outlineCount; i++) {
            cutOutline(outlines[i], length);
        }
        renewMask();
        return pieceCount;
    }

    public int image(int x, int y) {
        return onGrid(x, y) ? exposure.imageAt(mask, x, y) : 0;
    }

    public int error(int piece) {
        return isPiece(piece) ? errorOf(pieces[piece], PLAIN_DOSE) : 0;
    }

    public int run(int rounds, int threshold, int step, int limit) {
        if (!within(rounds, 1, MOST_ROUNDS) || !within(threshold, 1, MOST_THRESHOLD)) {
            return OUT_OF_RANGE;
        }
        if (!within(step, 1, MOST_STEP) || !within(limit, 1, MOST_MOVE)) {
            return OUT_OF_RANGE;
        }
        if (pieceCount == 0) {
            return WRONG_STATE;
        }
        exposure.threshold = threshold;
        worsts[0] = worstError();
        int kept = 0;
        while (kept < rounds && worsts[kept] > 0 && moveAgainstErrors(step, limit)) {
            renewMask();
            int worst = worstError();
            if (worst > worsts[kept]) {
                takeMovesBack();
                break;
            }
            kept++;
            worsts[kept] = worst;
        }
        worstCount = kept + 1;
        return kept;
    }

    public int moved(int piece) {
        return isPiece(piece) ? pieces[piece].move : 0;
    }

    public int worst(int round) {
        return round >= 0 && round < worstCount ? worsts[round] : UNKNOWN;
    }

    public int helper(int space, int width) {
        if (!within(space, 1, MOST_BAR_SPACE) || !within(width, 1, MOST_BAR_WIDTH)) {
            return OUT_OF_RANGE;
        }
        if (pieceCount == 0) {
            return WRONG_STATE;
        }
        int before = barCount;
        for (int i = 0; i < pieceCount; i++) {
            if (pieces[i].mayHaveBar()) {
                placeBar(pieces[i], space, width);
            }
        }
        renewMask();
        return barCount - before;
    }

    public boolean prints(int bar, int dose) {
        if (bar < 0 || bar >= barCount || !within(dose, 1, MOST_DOSE)) {
            return false;
        }
        Box place = bars[bar];
        for (int y = place.top; y < place.bottom; y++) {
            for (int x = place.left; x < place.right; x++) {
                if (exposure.printsAt(mask, x, y, dose)) {
                    return true;
                }
            }
        }
        return false;
    }

    public int edge(int piece, int dose) {
        return isPiece(piece) && within(dose, 1, MOST_DOSE) ? errorOf(pieces[piece], dose) : 0;
    }

    public boolean alike(int a, int b) {
        if (!isPiece(a) || !isPiece(b)) {
            return false;
        }
        Piece one = pieces[a];
        Piece other = pieces[b];
        return !one.isFlat() && one.facesLike(other) && sameTargetAround(one, other);
    }

    public int shift(int rule, int v) {
        if (!within(rule, RULE_ALL, RULE_ENDS) || !within(v, -MOST_MOVE, MOST_MOVE)) {
            return OUT_OF_RANGE;
        }
        if (pieceCount == 0) {
            return WRONG_STATE;
        }
        int changed = 0;
        for (int i = 0; i < pieceCount; i++) {
            Piece piece = pieces[i];
            if (piece.fitsRule(rule) && piece.moveTo(piece.move + v, MOST_MOVE)) {
                changed++;
            }
        }
        renewMask();
        return changed;
    }

    public boolean is(int x, int y, int what) {
        switch (what) {
            case IN_TARGET:
                return target.has(x, y);
            case IN_MASK:
                return mask.has(x, y);
            case IN_PRINT:
                return exposure.printsAt(mask, x, y, PLAIN_DOSE);
            default:
                return false;
        }
    }

    private static boolean within(int value, int least, int most) {
        return value >= least && value <= most;
    }

    private static boolean onGrid(int x, int y) {
        return x >= 0 && x < CELLS && y >= 0 && y < CELLS;
    }

    private static int clamp(int value, int reach) {
        return Math.max(-reach, Math.min(reach, value));
    }

    /** The bits of the columns from .. to - 1, as far as they are on the grid. */
    private static long columnBits(int from, int to) {
        int first = from > 0 ? from : 0;
        int end = to < CELLS ? to : CELLS;
        return first < end ? (1L << end) - (1L << first) : 0L;
    }

    private boolean isPiece(int piece) {
        return piece >= 0 && piece < pieceCount;
    }

    private void addToTarget(Outline outline) {
        for (int y = 0; y < CELLS; y++) {
            for (int x = 0; x < CELLS; x++) {
                if (outline.holds(x, y)) {
                    target.add(x, y);
                }
            }
        }
    }

    /** Each PIECE in turn, since a later one may take out what an earlier one has put in. */
    private void renewMask() {
        mask.copyFrom(target);
        for (int i = 0; i < pieceCount; i++) {
            applyMove(pieces[i]);
        }
        mask.addAll(barCells);
    }

    private void applyMove(Piece piece) {
        if (piece.move > 0) {
            box.layBeside(piece, piece.low, piece.high, piece.outward, 0, piece.move);
            mask.addBox(box);
        } else if (piece.move < 0) {
            box.layBeside(piece, piece.low, piece.high, -piece.outward, 0, -piece.move);
            mask.removeBox(box);
        }
    }

    private int piecesFor(int length) {
        int sum = 0;
        for (int i = 0; i < outlineCount; i++) {
            Outline outline = outlines[i];
            for (int side = 0; outline.closed && side < outline.corners; side++) {
                sum += outline.partsOf(side, length);
            }
        }
        return sum;
    }

    private void cutOutline(Outline outline, int length) {
        for (int side = 0; outline.closed && side < outline.corners; side++) {
            int parts = outline.partsOf(side, length);
            for (int part = 0; part < parts && pieceCount < MOST_PIECES; part++) {
                pieces[pieceCount].lieOn(outline, side, part, parts);
                pieceCount++;
            }
        }
    }

    /** The CELL inside counts among those that do not print, but not among those that do. */
    private int errorOf(Piece piece, int dose) {
        if (piece.isFlat()) {
            return 0;
        }
        boolean printing = exposure.printsAt(mask, piece.insideX, piece.insideY, dose);
        int way = printing ? piece.outward : -piece.outward;
        int stepX = piece.alongX ? 0 : way;
        int stepY = piece.alongX ? way : 0;
        int x = printing ? piece.insideX + stepX : piece.insideX;
        int y = printing ? piece.insideY + stepY : piece.insideY;
        int count = 0;
        while (count < MOST_ERROR && onGrid(x, y) && exposure.printsAt(mask, x, y, dose) == printing) {
            count++;
            x += stepX;
            y += stepY;
        }
        return printing ? count : -count;
    }

    private int worstError() {
        int worst = 0;
        for (int i = 0; i < pieceCount; i++) {
            worst = Math.max(worst, Math.abs(errorOf(pieces[i], PLAIN_DOSE)));
        }
        return worst;
    }

    /** Whether some MOVE is another one. The mask stays, so that all go by the errors before. */
    private boolean moveAgainstErrors(int step, int limit) {
        boolean changed = false;
        for (int i = 0; i < pieceCount; i++) {
            Piece piece = pieces[i];
            movesBefore[i] = piece.move;
            int wanted = piece.move - clamp(errorOf(piece, PLAIN_DOSE), step);
            if (piece.moveTo(wanted, limit)) {
                changed = true;
            }
        }
        return changed;
    }

    private void takeMovesBack() {
        for (int i = 0; i < pieceCount; i++) {
            pieces[i].move = movesBefore[i];
        }
        renewMask();
    }

    private void placeBar(Piece piece, int space, int width) {
        box.layBeside(piece, piece.sideLow + 1, piece.sideHigh - 1, piece.outward, space, width);
        if (barCount >= MOST_BARS || !box.isOnGrid() || target.meets(box) || barCells.meets(box)) {
            return;
        }
        bars[barCount].copyFrom(box);
        barCount++;
        barCells.addBox(box);
    }

    private boolean sameTargetAround(Piece one, Piece other) {
        for (int dy = -ALIKE_REACH; dy <= ALIKE_REACH; dy++) {
            for (int dx = -ALIKE_REACH; dx <= ALIKE_REACH; dx++) {
                boolean here = target.has(one.insideX + dx, one.insideY + dy);
                if (here != target.has(other.insideX + dx, other.insideY + dy)) {
                    return false;
                }
            }
        }
        return true;
    }

    /** A POLYGON. Side i goes from corner i to the next one, the last side to the first corner. */
    private static final class Outline {
        final int[] xs = new int[MOST_CORNERS];
        final int[] ys = new int[MOST_CORNERS];
        int corners;
        boolean closed;

        boolean takeCorner(int x, int y) {
            if (closed || !maySideGoTo(x, y)) {
                return false;
            }
            if (corners >= LEAST_CORNERS && x == xs[0] && y == ys[0]) {
                // Side corners - 1 is the one from the last corner back to the first.
                closed = isAlongX(corners - 1) != isAlongX(0);
                return closed;
            }
            if (corners >= MOST_CORNERS) {
                return false;
            }
            xs[corners] = x;
            ys[corners] = y;
            corners++;
            return true;
        }

        private boolean maySideGoTo(int x, int y) {
            if (corners == 0) {
                return true;
            }
            boolean alongX = y == ys[corners - 1];
            boolean alongY = x == xs[corners - 1];
            if (alongX == alongY) {
                return false;
            }
            return corners == 1 || alongX != isAlongX(corners - 2);
        }

        int nextCorner(int corner) {
            return corner + 1 < corners ? corner + 1 : 0;
        }

        boolean isAlongX(int side) {
            return ys[side] == ys[nextCorner(side)];
        }

        int sideStart(int side) {
            return isAlongX(side) ? xs[side] : ys[side];
        }

        int sideEnd(int side) {
            int end = nextCorner(side);
            return isAlongX(side) ? xs[end] : ys[end];
        }

        int partsOf(int side, int length) {
            if (length < 1) {
                return 0;
            }
            int whole = Math.abs(sideEnd(side) - sideStart(side));
            return (whole + length - 1) / length;
        }

        /** A side along x has no rows between its ends, so only those along y are counted. */
        boolean holds(int x, int y) {
            boolean odd = false;
            for (int side = 0; side < corners; side++) {
                int start = ys[side];
                int end = ys[nextCorner(side)];
                if (xs[side] <= x && Math.min(start, end) <= y && y < Math.max(start, end)) {
                    odd = !odd;
                }
            }
            return closed && odd;
        }
    }

    /** A PIECE, on the line y = line if it goes along x, else on x = line. */
    private static final class Piece {
        boolean alongX;
        int line;
        int low;
        int high;
        int sideLow;
        int sideHigh;
        boolean first;
        boolean last;
        /** The way across the line that is OUTWARD: 1 or -1; 0 if the PIECE is FLAT. */
        int outward;
        int insideX;
        int insideY;
        int move;

        void lieOn(Outline outline, int side, int part, int parts) {
            int start = outline.sideStart(side);
            int end = outline.sideEnd(side);
            alongX = outline.isAlongX(side);
            line = alongX ? outline.ys[side] : outline.xs[side];
            sideLow = Math.min(start, end);
            sideHigh = Math.max(start, end);
            first = part == 0;
            last = part == parts - 1;
            move = 0;
            int from = pointAt(start, end, part, parts);
            int to = pointAt(start, end, part + 1, parts);
            low = Math.min(from, to);
            high = Math.max(from, to);
            faceOutward(outline);
        }

        /** Cut from the side's beginning, so the length is cut, not the coordinate. */
        private static int pointAt(int start, int end, int part, int parts) {
            if (parts < 1) {
                return start;
            }
            int gone = Math.abs(end - start) * part / parts;
            return end > start ? start + gone : start - gone;
        }

        private void faceOutward(Outline outline) {
            int middle = (low + high - 1) / 2;
            boolean inBefore = alongX ? outline.holds(middle, line - 1) : outline.holds(line - 1, middle);
            boolean inBehind = alongX ? outline.holds(middle, line) : outline.holds(line, middle);
            outward = 0;
            if (inBefore != inBehind) {
                outward = inBefore ? 1 : -1;
            }
            int across = inBefore ? line - 1 : line;
            insideX = alongX ? middle : across;
            insideY = alongX ? across : middle;
        }

        boolean isFlat() {
            return outward == 0;
        }

        boolean facesLike(Piece other) {
            return alongX == other.alongX && outward == other.outward;
        }

        boolean mayHaveBar() {
            return first && !isFlat() && sideHigh - sideLow >= LEAST_BAR_SIDE;
        }

        boolean fitsRule(int rule) {
            switch (rule) {
                case RULE_ALL:
                    return true;
                case RULE_ALONG_X:
                    return alongX;
                case RULE_ALONG_Y:
                    return !alongX;
                case RULE_ENDS:
                    return first || last;
                default:
                    return false;
            }
        }

        /** Whether the MOVE is another one then; that of a FLAT one never is. */
        boolean moveTo(int wanted, int limit) {
            if (isFlat()) {
                return false;
            }
            int before = move;
            move = clamp(wanted, limit);
            return move != before;
        }
    }

    /** The CELLS left .. right - 1 of the rows top .. bottom - 1, also beyond the grid. */
    private static final class Box {
        int left;
        int top;
        int right;
        int bottom;

        /** The CELLS low .. high - 1 along a PIECE, the given way from it: so deep, behind a gap. */
        void layBeside(Piece piece, int low, int high, int way, int gap, int depth) {
            int near = piece.line + way * gap;
            int far = near + way * depth;
            int begin = Math.min(near, far);
            int end = Math.max(near, far);
            left = piece.alongX ? low : begin;
            right = piece.alongX ? high : end;
            top = piece.alongX ? begin : low;
            bottom = piece.alongX ? end : high;
        }

        void copyFrom(Box other) {
            left = other.left;
            top = other.top;
            right = other.right;
            bottom = other.bottom;
        }

        boolean isOnGrid() {
            return left >= 0 && top >= 0 && right <= CELLS && bottom <= CELLS;
        }
    }

    /** A set of CELLS: a row is a long, and a column is a bit of it. */
    private static final class CellSet {
        private final long[] rows = new long[CELLS];

        boolean has(int x, int y) {
            return onGrid(x, y) && (rows[y] & 1L << x) != 0L;
        }

        void add(int x, int y) {
            if (onGrid(x, y)) {
                rows[y] |= 1L << x;
            }
        }

        void copyFrom(CellSet other) {
            for (int y = 0; y < CELLS; y++) {
                rows[y] = other.rows[y];
            }
        }

        void addAll(CellSet other) {
            for (int y = 0; y < CELLS; y++) {
                rows[y] |= other.rows[y];
            }
        }

        void addBox(Box box) {
            long columns = columnBits(box.left, box.right);
            int end = Math.min(box.bottom, CELLS);
            for (int y = Math.max(box.top, 0); y < end; y++) {
                rows[y] |= columns;
            }
        }

        void removeBox(Box box) {
            long others = ~columnBits(box.left, box.right);
            int end = Math.min(box.bottom, CELLS);
            for (int y = Math.max(box.top, 0); y < end; y++) {
                rows[y] &= others;
            }
        }

        boolean meets(Box box) {
            long columns = columnBits(box.left, box.right);
            int end = Math.min(box.bottom, CELLS);
            for (int y = Math.max(box.top, 0); y < end; y++) {
                if ((rows[y] & columns) != 0L) {
                    return true;
                }
            }
            return false;
        }

        int countAround(int x, int y, int width) {
            long columns = columnBits(x - width, x + width + 1);
            int end = Math.min(y + width + 1, CELLS);
            int sum = 0;
            for (int row = Math.max(y - width, 0); row < end; row++) {
                sum += Long.bitCount(rows[row] & columns);
            }
            return sum;
        }
    }

    /** The KERNELS and THE THRESHOLD: what a mask's image is, and what of it prints. */
    private static final class Exposure {
        private final int[] weights = new int[MOST_KERNELS];
        private final int[] widths = new int[MOST_KERNELS];
        private int kernels;
        int threshold = 1;

        int addKernel(int weight, int width) {
            if (kernels >= MOST_KERNELS) {
                return NO_ROOM;
            }
            weights[kernels] = weight;
            widths[kernels] = width;
            kernels++;
            return kernels - 1;
        }

        int imageAt(CellSet mask, int x, int y) {
            int sum = 0;
            for (int i = 0; i < kernels; i++) {
                sum += weights[i] * mask.countAround(x, y, widths[i]);
            }
            return sum;
        }

        boolean printsAt(CellSet mask, int x, int y, int dose) {
            return onGrid(x, y) && imageAt(mask, x, y) * dose >= PLAIN_DOSE * threshold;
        }
    }
}
