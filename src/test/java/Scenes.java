/** Triangles that several tests begin with. */
final class Scenes {
    static final int BACK = -16384;
    static final int FAR = 16383;
    static final int DEEPEST = (1 << 24) - 1;
    static final int NEAREST = 1 << 23;

    /** Which corner each of three points becomes: first the three ways round, then the three turned ones. */
    static final int[][] ORDERS = {{0, 1, 2}, {1, 2, 0}, {2, 0, 1}, {0, 2, 1}, {2, 1, 0}, {1, 0, 2}};

    private Scenes() {
    }

    static EdgeRaster triangle(int... xy) {
        return ordered(ORDERS[0], xy);
    }

    /** Point k of xy becomes corner order[k], with depth 0 and Q 1. */
    static EdgeRaster ordered(int[] order, int... xy) {
        EdgeRaster r = new EdgeRaster();
        for (int k = 0; k < 3; k++) {
            r.corner(order[k], xy[2 * k], xy[2 * k + 1], 0, 1);
        }
        return r;
    }

    /** Covers (0,0) (1,0) (2,0) (0,1) (1,1) (0,2); the long edge goes through (3,0) (2,1) .. and is not its own. */
    static EdgeRaster small() {
        EdgeRaster r = triangle(0, 0, 64, 0, 0, 64);
        r.window(0, 0, 8, 8);
        return r;
    }

    static long covered(EdgeRaster r, int x, int y) {
        return r.covers(x, y) ? 1 : 0;
    }

    /** A walk on its first place. */
    static EdgeRaster onFirst(EdgeRaster r) {
        r.walk();
        r.next();
        return r;
    }
}
