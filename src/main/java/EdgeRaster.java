/**
 * Which places of a screen a triangle covers, and the depth and the values that it brings to them.
 * The words used here (place, edge, weight, share, turned) are those of DOC.md.
 */
public final class EdgeRaster {
    public static final int NONE = -1;

    private static final int CORNERS = 3;
    private static final int VALUES = 28;
    private static final int LEAST_SIXTEENTH = -16384;
    private static final int MOST_SIXTEENTH = 16383;
    private static final int MOST_DEPTH = (1 << 24) - 1;
    private static final int MOST_NEARNESS = 1 << 23;
    private static final int MOST_WINDOW_START = 1023;
    private static final int MOST_WINDOW_SIDE = 64;
    private static final int LEAST_PLACE = -1024;
    private static final int MOST_PLACE = 2047;
    private static final int ROW_STEP = 65536;
    private static final long SHARE_LIMIT = 1L << 29;
    private static final int MOST_SHIFT = 63;

    private final Corner corner0;
    private final Corner corner1;
    private final Corner corner2;
    private long signedArea;

    private int windowX;
    private int windowY;
    private int windowWide;
    private int windowHigh;

    private boolean walking;
    private boolean onPlace;
    private int lastX;
    private int lastY;

    public EdgeRaster() {
        corner0 = new Corner();
        corner1 = new Corner();
        corner2 = new Corner();
        signedArea = 0;
        windowX = 0;
        windowY = 0;
        windowWide = 1;
        windowHigh = 1;
        walking = false;
        onPlace = false;
        lastX = 0;
        lastY = 0;
    }

    public void corner(int j, int x, int y, int depth, int q) throws IllegalArgumentException {
        if (!isCorner(j)) {
            throw new IllegalArgumentException("there is no such corner");
        }
        if (!within(x, LEAST_SIXTEENTH, MOST_SIXTEENTH) || !within(y, LEAST_SIXTEENTH, MOST_SIXTEENTH)) {
            throw new IllegalArgumentException("x and y must be -16384 .. 16383");
        }
        if (!within(depth, 0, MOST_DEPTH)) {
            throw new IllegalArgumentException("the depth must be 0 .. 2^24 - 1");
        }
        if (!within(q, 1, MOST_NEARNESS)) {
            throw new IllegalArgumentException("q must be 1 .. 2^23");
        }
        Corner changed = cornerOf(j);
        changed.x = x;
        changed.y = y;
        changed.deep = depth;
        changed.nearness = q;
        layTriangle();
        endWalk();
    }

    public void value(int j, int n, int v) throws IllegalArgumentException {
        if (!isCorner(j) || !isValue(n)) {
            throw new IllegalArgumentException("there is no such corner or value");
        }
        cornerOf(j).values[n] = v;
        endWalk();
    }

    public void window(int x0, int y0, int wide, int high) throws IllegalArgumentException {
        if (!within(x0, 0, MOST_WINDOW_START) || !within(y0, 0, MOST_WINDOW_START)) {
            throw new IllegalArgumentException("x0 and y0 must be 0 .. 1023");
        }
        if (!within(wide, 1, MOST_WINDOW_SIDE) || !within(high, 1, MOST_WINDOW_SIDE)) {
            throw new IllegalArgumentException("wide and high must be 1 .. 64");
        }
        windowX = x0;
        windowY = y0;
        windowWide = wide;
        windowHigh = high;
        endWalk();
    }

    public long area() {
        return signedArea;
    }

    public boolean covers(int x, int y) throws IllegalArgumentException {
        if (!within(x, LEAST_PLACE, MOST_PLACE) || !within(y, LEAST_PLACE, MOST_PLACE)) {
            throw new IllegalArgumentException("x and y must be -1024 .. 2047");
        }
        return isCovered(x, y);
    }

    public int many() {
        int count = 0;
        for (int y = windowY; y < windowY + windowHigh; y++) {
            for (int x = windowX; x < windowX + windowWide; x++) {
                if (isCovered(x, y)) {
                    count++;
                }
            }
        }
        return count;
    }

    public void walk() {
        walking = true;
        onPlace = false;
        lastX = windowX - 1;
        lastY = windowY;
    }

    public int next() throws IllegalStateException {
        if (!walking) {
            throw new IllegalStateException("there is no walk");
        }
        int start = lastX + 1;
        for (int y = lastY; y < windowY + windowHigh; y++) {
            int x = firstCovered(start, y);
            if (x < windowX + windowWide) {
                onPlace = true;
                lastX = x;
                lastY = y;
                return ROW_STEP * y + x;
            }
            start = windowX;
        }
        // Below the last row, so that a further call need not look through the rows again.
        onPlace = false;
        lastY = windowY + windowHigh;
        return NONE;
    }

    public long weight(int j) throws IllegalArgumentException, IllegalStateException {
        if (!isCorner(j)) {
            throw new IllegalArgumentException("there is no such corner");
        }
        if (!onPlace) {
            throw new IllegalStateException("there is no place that came last");
        }
        return cornerOf(j).weightAt(lastX, lastY);
    }

    public int depth() throws IllegalStateException {
        if (!onPlace) {
            throw new IllegalStateException("there is no place that came last");
        }
        long sum = corner0.weightAt(lastX, lastY) * corner0.deep
                + corner1.weightAt(lastX, lastY) * corner1.deep
                + corner2.weightAt(lastX, lastY) * corner2.deep;
        return (int) dividedDown(sum, Math.abs(signedArea));
    }

    public int at(int n) throws IllegalArgumentException, IllegalStateException {
        if (!isValue(n)) {
            throw new IllegalArgumentException("n must be 0 .. 27");
        }
        if (!onPlace) {
            throw new IllegalStateException("there is no place that came last");
        }
        long near0 = corner0.nearWeightAt(lastX, lastY);
        long near1 = corner1.nearWeightAt(lastX, lastY);
        long near2 = corner2.nearWeightAt(lastX, lastY);
        int shift = shareShift(Math.max(near0, Math.max(near1, near2)));
        long share0 = near0 >> shift;
        long share1 = near1 >> shift;
        long share2 = near2 >> shift;
        // Shares below 2^29 keep this sum below 3 * 2^60, so it never wraps around.
        long sum = share0 * corner0.values[n] + share1 * corner1.values[n] + share2 * corner2.values[n];
        return (int) dividedDown(sum, share0 + share1 + share2);
    }

    private static boolean within(int number, int least, int most) {
        return number >= least && number <= most;
    }

    private static boolean isCorner(int j) {
        return within(j, 0, CORNERS - 1);
    }

    private static boolean isValue(int n) {
        return within(n, 0, VALUES - 1);
    }

    private Corner cornerOf(int j) {
        if (j == 0) {
            return corner0;
        }
        return j == 1 ? corner1 : corner2;
    }

    private void endWalk() {
        walking = false;
        onPlace = false;
    }

    private void layTriangle() {
        signedArea = (long) (corner1.x - corner0.x) * (corner2.y - corner0.y)
                - (long) (corner2.x - corner0.x) * (corner1.y - corner0.y);
        if (signedArea < 0) {
            // Turned: each corner keeps the edge that lies across from it, gone the other way,
            // so that its weight stays its own and goes with its own depth, Q and values.
            corner0.layEdge(corner2, corner1);
            corner1.layEdge(corner0, corner2);
            corner2.layEdge(corner1, corner0);
        } else {
            corner0.layEdge(corner1, corner2);
            corner1.layEdge(corner2, corner0);
            corner2.layEdge(corner0, corner1);
        }
    }

    private boolean isCovered(int x, int y) {
        return signedArea != 0
                && corner0.admits(x, y)
                && corner1.admits(x, y)
                && corner2.admits(x, y);
    }

    /** The first covered x of the window's row y, from start on; the window's right end if there is none. */
    private int firstCovered(int start, int y) {
        for (int x = start; x < windowX + windowWide; x++) {
            if (isCovered(x, y)) {
                return x;
            }
        }
        return windowX + windowWide;
    }

    private static int shareShift(long greatest) {
        int shift = 0;
        while (shift < MOST_SHIFT && (greatest >> shift) >= SHARE_LIMIT) {
            shift++;
        }
        return shift;
    }

    /** At a covered place no divisor is 0: the weights make up the area, and the greatest share is above 0. */
    private static long dividedDown(long sum, long divisor) {
        return divisor > 0 ? Math.floorDiv(sum, divisor) : 0;
    }

    /** A corner with the edge that lies across from it. */
    private static final class Corner {
        private int x;
        private int y;
        private int deep;
        private int nearness;
        private final int[] values;

        private int edgeX;
        private int edgeY;
        private int edgeAcross;
        private int edgeDown;
        private int leastWeight;

        private Corner() {
            x = 0;
            y = 0;
            deep = 0;
            nearness = 1;
            values = new int[VALUES];
            edgeX = 0;
            edgeY = 0;
            edgeAcross = 0;
            edgeDown = 0;
            leastWeight = 1;
        }

        private void layEdge(Corner from, Corner to) {
            edgeX = from.x;
            edgeY = from.y;
            edgeAcross = to.x - from.x;
            edgeDown = to.y - from.y;
            boolean top = edgeDown == 0 && edgeAcross > 0;
            boolean left = edgeDown < 0;
            leastWeight = top || left ? 0 : 1;
        }

        private long weightAt(int placeX, int placeY) {
            int middleX = 16 * placeX + 8;
            int middleY = 16 * placeY + 8;
            return (long) edgeAcross * (middleY - edgeY) - (long) edgeDown * (middleX - edgeX);
        }

        private long nearWeightAt(int placeX, int placeY) {
            return weightAt(placeX, placeY) * nearness;
        }

        private boolean admits(int placeX, int placeY) {
            return weightAt(placeX, placeY) >= leastWeight;
        }
    }
}
