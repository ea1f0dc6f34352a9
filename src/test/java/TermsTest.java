import java.util.Arrays;
import java.util.function.Consumer;

/** The sentences under "Terms" of DOC.md at their boundaries; each method's comment has the sentence. */
public final class TermsTest {
    private static final Check CHECK = new Check();
    private static final int BACK = Scenes.BACK;
    private static final int FAR = Scenes.FAR;
    private static final int DEEPEST = Scenes.DEEPEST;
    private static final int NEAREST = Scenes.NEAREST;
    private static final int LOWEST = Integer.MIN_VALUE;
    private static final int HIGHEST = Integer.MAX_VALUE;

    public static void main(String[] args) {
        cornersAreThree();
        rangeOfX();
        rangeOfY();
        rangeOfDepth();
        rangeOfNearness();
        valuesAreTwentyEight();
        valuesAreInts();
        areaIsThatOfTheFormula();
        areaOfZeroCoversNothing();
        areaOfOneIsEnough();
        turnedCornersAreTakenOneForTheOther();
        turnedAreaIsAsGreatAboveZero();
        middlesOfPlaces();
        weightIsThatOfTheEdge();
        weightsMakeUpTheArea();
        weightAboveZeroCovers();
        weightOfZeroCoversOnTopAndLeftAlone();
        levelEdgesAreTopOnesOneWay();
        sharedEdgeIsOfOneTriangle();
        depthGoesDown();
        shiftIsTheLeast();
        shiftIsTheGreatestThatCanBe();
        shareGoesDown();
        valueGoesDown();
        valueNeverWrapsAround();
        windowIsARectangle();
        windowIsAtMostSixtyFour();
        walkGoesRowByRow();
        lastOf512Calls();
        CHECK.end();
    }

    /** "A TRIANGLE has three CORNERS 0, 1, 2". */
    private static void cornersAreThree() {
        EdgeRaster r = Scenes.small();
        CHECK.dueRange("corner of", 0, 2, j -> r.corner(j, 5, 5, 5, 5));
        CHECK.dueRange("value of corner", 0, 2, j -> r.value(j, 5, 5));
        EdgeRaster walked = Scenes.onFirst(Scenes.small());
        CHECK.dueRange("weight of corner", 0, 2, walked::weight);
        EdgeRaster middle = new EdgeRaster();
        middle.corner(1, 40, 8, 0, 1);
        middle.corner(2, 8, 40, 0, 1);
        middle.corner(0, 8, 8, 0, 1);
        CHECK.due("area by all three corners", 1024, middle::area);
    }

    /** "each with X .. in SIXTEENTHS of a place (-16384 .. 16383)". */
    private static void rangeOfX() {
        for (int[] order : Scenes.ORDERS) {
            EdgeRaster r = Scenes.ordered(order, 0, 0, 0, 0, 0, 1);
            int sign = isTurned(order) ? 1 : -1;
            CHECK.dueRange("x of corner " + order[0], BACK, FAR, x -> r.corner(order[0], x, 0, 0, 1));
            CHECK.due("area with the greatest x", (long) sign * FAR, r::area);
            r.corner(order[0], BACK, 0, 0, 1);
            CHECK.due("area with the least x", (long) sign * BACK, r::area);
        }
    }

    /** "each with .. Y in SIXTEENTHS of a place (-16384 .. 16383)". */
    private static void rangeOfY() {
        for (int[] order : Scenes.ORDERS) {
            EdgeRaster r = Scenes.ordered(order, 0, 0, 0, 0, 1, 0);
            int sign = isTurned(order) ? -1 : 1;
            CHECK.dueRange("y of corner " + order[0], BACK, FAR, y -> r.corner(order[0], 0, y, 0, 1));
            CHECK.due("area with the greatest y", (long) sign * FAR, r::area);
            r.corner(order[0], 0, BACK, 0, 1);
            CHECK.due("area with the least y", (long) sign * BACK, r::area);
        }
    }

    private static boolean isTurned(int[] order) {
        return (order[1] - order[0] + 3) % 3 == 2;
    }

    /** "a DEPTH (0 .. 2^24 - 1)". */
    private static void rangeOfDepth() {
        for (int[] order : Scenes.ORDERS) {
            // The whole weight of (0, 0) is that of the first point.
            EdgeRaster r = Scenes.ordered(order, 8, 8, 40, 8, 8, 40);
            r.corner(order[1], 40, 8, 77, 1);
            CHECK.dueRange("depth of corner " + order[0], 0, DEEPEST, d -> r.corner(order[0], 8, 8, d, 1));
            CHECK.due("greatest depth", DEEPEST, () -> Scenes.onFirst(r).depth());
            r.corner(order[0], 8, 8, 0, 1);
            CHECK.due("least depth", 0, () -> Scenes.onFirst(r).depth());
        }
    }

    /** "a NEARNESS Q (1 .. 2^23)". */
    private static void rangeOfNearness() {
        for (int[] order : Scenes.ORDERS) {
            EdgeRaster r = Scenes.ordered(order, 7, 8, 72, 8, 7, 9);
            CHECK.dueRange("q of corner " + order[0], 1, NEAREST, q -> r.corner(order[0], 7, 8, 0, q));
            CHECK.dueArgument("q -1 of corner " + order[0], () -> r.corner(order[0], 7, 8, 0, -1));
            r.value(order[1], 0, LOWEST);
            // Weights 64, 1, 0: 64 times 2^23 is 2^29, which alone has the second share shifted away.
            CHECK.due("value with the greatest q", 0, () -> Scenes.onFirst(r).at(0));
            r.corner(order[0], 7, 8, 0, NEAREST - 1);
            CHECK.due("value with the greatest q but one", -5, () -> Scenes.onFirst(r).at(0));
            r.corner(order[0], 7, 8, 0, 1);
            CHECK.due("value with the least q", Math.floorDiv((long) LOWEST, 65L), () -> Scenes.onFirst(r).at(0));
        }
    }

    /** "28 VALUES". */
    private static void valuesAreTwentyEight() {
        EdgeRaster r = Scenes.triangle(8, 8, 40, 8, 8, 40);
        CHECK.dueRange("value", 0, 27, n -> r.value(1, n, 5));
        for (int n = 0; n < 28; n++) {
            r.value(0, n, 100 + n);
        }
        EdgeRaster walked = Scenes.onFirst(r);
        CHECK.dueRange("at", 0, 27, walked::at);
        for (int n = 0; n < 28; n++) {
            int value = n;
            CHECK.due("at(" + n + ") is a value of its own", 100 + n, () -> walked.at(value));
        }
    }

    /** "VALUES (ints)". */
    private static void valuesAreInts() {
        int[] ints = {LOWEST, LOWEST + 1, -1, 0, 1, HIGHEST - 1, HIGHEST};
        for (int[] order : Scenes.ORDERS) {
            EdgeRaster r = Scenes.ordered(order, 8, 8, 40, 8, 8, 40);
            for (int v : ints) {
                CHECK.dueDone("value " + v, () -> r.value(order[0], 27, v));
                CHECK.due("at of the value " + v, v, () -> Scenes.onFirst(r).at(27));
            }
        }
    }

    /** "Its AREA is (X1 - X0) (Y2 - Y0) - (X2 - X0) (Y1 - Y0)". */
    private static void areaIsThatOfTheFormula() {
        int[][] corners = {
            {BACK, BACK, FAR, BACK, FAR, FAR}, {BACK, BACK, FAR, FAR, FAR, BACK},
            {BACK, BACK, FAR, BACK, BACK, FAR}, {FAR, FAR, BACK, BACK, BACK, FAR},
            {3, 5, 14, 12, 20, 94}, {-3, -5, -14, -12, -20, -94}, {0, 0, 1, 0, 0, 1}, {0, 0, 0, 1, 1, 0},
        };
        long[] areas = {
            32767L * 32767L, -32767L * 32767L, 32767L * 32767L, -32767L * 32767L,
            11 * 89 - 17 * 7, 11 * 89 - 17 * 7, 1, -1,
        };
        for (int k = 0; k < corners.length; k++) {
            EdgeRaster r = Scenes.triangle(corners[k]);
            CHECK.due("area of " + Arrays.toString(corners[k]), areas[k], r::area);
        }
    }

    /** "A place is COVERED if the area is not 0". */
    private static void areaOfZeroCoversNothing() {
        int[][] flat = {
            {8, 8, 8, 8, 8, 8}, {8, 8, 40, 8, 24, 8}, {40, 8, 24, 8, 8, 8}, {8, 8, 8, 40, 8, 24}, {8, 40, 8, 24, 8, 8},
            {8, 8, 40, 40, 24, 24}, {8, 40, 40, 8, 24, 24}, {8, 8, 8, 8, 40, 8}, {8, 40, 8, 8, 8, 8},
        };
        for (int[] xy : flat) {
            for (int[] order : Scenes.ORDERS) {
                EdgeRaster r = Scenes.ordered(order, xy);
                r.window(0, 0, 8, 8);
                CHECK.due("area of " + Arrays.toString(xy), 0, r::area);
                CHECK.due("covers a corner of " + Arrays.toString(xy), 0, () -> Scenes.covered(r, 0, 0));
                CHECK.due("covers a middle of " + Arrays.toString(xy), 0, () -> Scenes.covered(r, 1, 1));
                CHECK.due("many of " + Arrays.toString(xy), 0, r::many);
                r.walk();
                CHECK.due("next of " + Arrays.toString(xy), EdgeRaster.NONE, r::next);
            }
        }
    }

    /** "if the area is not 0": the least areas that are not, 1 and -1, do cover. */
    private static void areaOfOneIsEnough() {
        for (int[] order : Scenes.ORDERS) {
            EdgeRaster r = Scenes.ordered(order, 8, 8, 9, 8, 8, 9);
            CHECK.due("least area", isTurned(order) ? -1 : 1, r::area);
            CHECK.due("many of the least area", 1, r::many);
            CHECK.due("covers with the least area", 1, () -> Scenes.covered(r, 0, 0));
            CHECK.due("weight with the least area", 1, () -> Scenes.onFirst(r).weight(order[0]));
        }
    }

    /** "if that is below 0, the corners 1 and 2 are TURNED: they are taken one for the other in all .. about edges". */
    private static void turnedCornersAreTakenOneForTheOther() {
        // The same three points turned cover the same places, the edges' own ones too.
        int[][] shapes = {{8, 8, 72, 8, 72, 72}, {8, 8, 72, 72, 8, 72}, {40, 8, 72, 40, 8, 72}, {3, 9, 70, 21, 30, 90}};
        for (int[] xy : shapes) {
            EdgeRaster straight = Scenes.triangle(xy);
            for (int k = 3; k < 6; k++) {
                EdgeRaster turned = Scenes.ordered(Scenes.ORDERS[k], xy);
                CHECK.due("turned area", -straight.area(), turned::area);
                for (int place = 0; place < 49; place++) {
                    int x = place % 7 - 1;
                    int y = place / 7 - 1;
                    CHECK.due("turned covers(" + x + ", " + y + ")", Scenes.covered(straight, x, y),
                            () -> Scenes.covered(turned, x, y));
                }
            }
        }
    }

    /** "and the area is as great above 0": what turned corners bring is what they bring the other way round. */
    private static void turnedAreaIsAsGreatAboveZero() {
        for (int[] order : Scenes.ORDERS) {
            EdgeRaster r = new EdgeRaster();
            int[][] points = {{8, 8, 1000, 3}, {72, 8, 9, 5}, {8, 136, 20002, 11}};
            for (int k = 0; k < 3; k++) {
                r.corner(order[k], points[k][0], points[k][1], points[k][2], points[k][3]);
                r.value(order[k], 4, -1000 * (k + 1));
            }
            r.window(1, 1, 1, 1);
            r.walk();
            CHECK.due("next", 65537, r::next);
            // Of 8192 these are 5120, 2048, 1024.
            CHECK.due("depth", Math.floorDiv(5120 * 1000 + 2048 * 9 + 1024 * 20002, 8192), r::depth);
            int shares = 5120 * 3 + 2048 * 5 + 1024 * 11;
            CHECK.due("at", Math.floorDiv(-1000 * (5120 * 3 + 2 * 2048 * 5 + 3 * 1024 * 11), shares), () -> r.at(4));
        }
    }

    /** "PLACES are (x, y); the middle of one is at 16 x + 8, 16 y + 8". */
    private static void middlesOfPlaces() {
        int[] places = {-1024, -1023, -1, 0, 1, 1022, 1023};
        for (int x : places) {
            for (int y : places) {
                dueCovers(true, "corner on the middle", x, y, 0, 0);
                dueCovers(false, "corner right of the middle", x, y, 1, 0);
                dueCovers(false, "corner left of the middle", x, y, -1, 0);
                dueCovers(false, "corner below the middle", x, y, 0, 1);
                dueCovers(false, "corner above the middle", x, y, 0, -1);
            }
        }
    }

    /** The triangle of area 1 holds no middle but the one that its first corner is on. */
    private static void dueCovers(boolean due, String what, int x, int y, int right, int down) {
        int left = 16 * x + 8 + right;
        int top = 16 * y + 8 + down;
        EdgeRaster r = Scenes.triangle(left, top, left + 1, top, left, top + 1);
        CHECK.due(what + " of (" + x + ", " + y + ")", due ? 1 : 0, () -> Scenes.covered(r, x, y));
        int[][] beside = {{x - 1, y}, {x + 1, y}, {x, y - 1}, {x, y + 1}};
        for (int[] place : beside) {
            if (place[0] >= -1024 && place[1] >= -1024) {
                CHECK.due(what + ", beside " + x + ", " + y, 0, () -> Scenes.covered(r, place[0], place[1]));
            }
        }
    }

    /** "The EDGE of a corner goes from the next corner to the one behind that .. the WEIGHT of the corner .. is ..". */
    private static void weightIsThatOfTheEdge() {
        for (int[] order : Scenes.ORDERS) {
            EdgeRaster r = Scenes.ordered(order, 5, 3, 70, 21, 30, 90);
            r.window(2, 2, 1, 1);
            r.walk();
            CHECK.due("next", 2 * 65537, r::next);
            CHECK.due("weight of the first point", -40 * (40 - 21) - 69 * (40 - 70), () -> r.weight(order[0]));
            CHECK.due("weight of the second point", -25 * (40 - 90) + 87 * (40 - 30), () -> r.weight(order[1]));
            CHECK.due("weight of the third point", 65 * (40 - 3) - 18 * (40 - 5), () -> r.weight(order[2]));
        }
        for (int[] order : Scenes.ORDERS) {
            EdgeRaster great = Scenes.ordered(order, FAR, 8, BACK, FAR, BACK, BACK);
            great.window(1023, 0, 1, 1);
            great.walk();
            CHECK.due("next far off", 1023, great::next);
            CHECK.due("greatest weight", 32767L * 32760L, () -> great.weight(order[0]));
        }
    }

    /** "The three weights of a place make up the area." */
    private static void weightsMakeUpTheArea() {
        int[][] shapes = {{5, 3, 70, 21, 30, 90}, {BACK, BACK, FAR, BACK, FAR, FAR}, {8, 8, 9, 8, 8, 9}};
        int[][] windows = {{0, 0, 6, 6}, {1020, 0, 4, 3}, {0, 0, 1, 1}};
        for (int k = 0; k < shapes.length; k++) {
            int[] w = windows[k];
            for (int[] order : Scenes.ORDERS) {
                EdgeRaster r = Scenes.ordered(order, shapes[k]);
                r.window(w[0], w[1], w[2], w[3]);
                CHECK.due("there are places", 1, () -> r.many() > 0 ? 1 : 0);
                r.walk();
                for (int step = 0; step < 40 && r.next() != EdgeRaster.NONE; step++) {
                    CHECK.due("sum of the weights", Math.abs(r.area()),
                            () -> r.weight(0) + r.weight(1) + r.weight(2));
                }
            }
        }
    }

    /** "each weight is above 0": with any edge a weight of 1 covers and one of -1 does not. */
    private static void weightAboveZeroCovers() {
        dueAcross("top edge", -1, at -> new int[] {8, 8 + at, 9, 8 + at, 8, 40}, 1);
        dueAcross("left edge", -1, at -> new int[] {8 + at, 9, 8 + at, 8, 40, 8}, 1);
        dueAcross("bottom edge", 1, at -> new int[] {9, 8 + at, 8, 8 + at, 8, -30}, 0);
        dueAcross("right edge", 1, at -> new int[] {8 + at, 8, 8 + at, 9, -30, 8}, 0);
    }

    private interface Shape {
        int[] at(int shift);
    }

    /** The edge of the third point is shifted until its weight at (0, 0) is 1, 0 and -1. */
    private static void dueAcross(String what, int inward, Shape shape, int onEdge) {
        for (int[] order : Scenes.ORDERS) {
            CHECK.due(what + ", weight 1", 1, () -> Scenes.covered(Scenes.ordered(order, shape.at(inward)), 0, 0));
            CHECK.due(what + ", weight 1", 1,
                    () -> Scenes.onFirst(Scenes.ordered(order, shape.at(inward))).weight(order[2]));
            CHECK.due(what + ", weight 0", onEdge, () -> Scenes.covered(Scenes.ordered(order, shape.at(0)), 0, 0));
            CHECK.due(what + ", weight -1", 0, () -> Scenes.covered(Scenes.ordered(order, shape.at(-inward)), 0, 0));
        }
    }

    /** "or is 0 and its edge is a TOP one .. or a LEFT one (Yb below Ya)"; the first two points are the edge. */
    private static void weightOfZeroCoversOnTopAndLeftAlone() {
        dueOnEdge("left, straight up", 1, 8, 24, 8, -8, 40, 8);
        dueOnEdge("left, up and to the right", 1, -8, 24, 24, -8, 40, 40);
        dueOnEdge("left, up and to the left", 1, 24, 24, -8, -8, 40, -20);
        dueOnEdge("left, almost level", 1, -8, 9, 24, 7, 24, 100);
        dueOnEdge("left, almost level, leftwards", 1, 24, 9, -8, 7, 24, -100);
        dueOnEdge("top", 1, -8, 8, 24, 8, 8, 100);
        dueOnEdge("right, straight down", 0, 8, -8, 8, 24, -30, 8);
        dueOnEdge("right, down and to the right", 0, -8, -8, 24, 24, -30, 40);
        dueOnEdge("right, down and to the left", 0, 24, -8, -8, 24, -30, -20);
        dueOnEdge("right, almost level", 0, -8, 7, 24, 9, 24, 100);
        dueOnEdge("right, almost level, leftwards", 0, 24, 7, -8, 9, 24, -100);
        dueOnEdge("bottom", 0, 24, 8, -8, 8, 8, -100);
    }

    private static void dueOnEdge(String what, int due, int... xy) {
        for (int[] order : Scenes.ORDERS) {
            EdgeRaster r = Scenes.ordered(order, xy);
            CHECK.due(what + ", which way round", isTurned(order) ? -1 : 1, () -> Long.signum(r.area()));
            CHECK.due(what + ", covers", due, () -> Scenes.covered(r, 0, 0));
            CHECK.due(what + ", many", due, r::many);
        }
    }

    /** "a TOP one (Yb is Ya, Xb above Xa)", the least long one too; a corner's two edges are both looked at. */
    private static void levelEdgesAreTopOnesOneWay() {
        dueOnEdge("corner of top and left edge", 1, 8, 8, 9, 8, 8, 9);
        dueOnEdge("corner of top and right edge", 0, 7, 8, 8, 8, 7, 9);
        dueOnEdge("corner of left and bottom edge", 0, 8, 8, 8, 7, 9, 8);
        dueOnEdge("corner of bottom and right edge", 0, 8, 7, 8, 8, 7, 8);
        dueOnEdge("uppermost corner", 0, 8, 8, 24, 40, -8, 40);
        dueOnEdge("leftmost corner", 1, 8, 8, 40, -8, 40, 9);
        dueOnEdge("lowest corner", 0, 8, 8, -8, -24, 24, -24);
        dueOnEdge("rightmost corner", 0, 8, 8, -24, 24, -24, -8);
    }

    /** "each place of two triangles that share an edge by just one of them". */
    private static void sharedEdgeIsOfOneTriangle() {
        int[][] edges = {
            {8, 72, 72, 72}, {72, 8, 72, 136}, {8, 8, 136, 136}, {8, 136, 136, 8}, {8, 56, 136, 88}, {56, 8, 88, 136},
        };
        int[][] sides = {
            {72, 8, 72, 136}, {8, 72, 136, 72}, {8, 136, 136, 8}, {8, 8, 136, 136}, {136, 8, 8, 136}, {8, 136, 136, 8},
        };
        int[] onEdge = {3, 7, 7, 7, 1, 1};
        for (int k = 0; k < edges.length; k++) {
            int[] e = edges[k];
            int[] s = sides[k];
            for (int[] order : Scenes.ORDERS) {
                EdgeRaster one = Scenes.ordered(order, e[0], e[1], e[2], e[3], s[0], s[1]);
                EdgeRaster other = Scenes.ordered(order, e[2], e[3], e[0], e[1], s[2], s[3]);
                int met = 0;
                for (int place = 0; place < 49; place++) {
                    int x = 1 + place % 7;
                    int y = 1 + place / 7;
                    if (isInside(e, 16 * x + 8, 16 * y + 8)) {
                        met++;
                        CHECK.due("triangles at (" + x + ", " + y + ") of edge " + k, 1,
                                () -> Scenes.covered(one, x, y) + Scenes.covered(other, x, y));
                    }
                }
                int count = met;
                CHECK.due("places on edge " + k, onEdge[k], () -> count);
            }
        }
    }

    /** Whether a middle lies on the edge between its ends. */
    private static boolean isInside(int[] e, int x, int y) {
        boolean onLine = (e[2] - e[0]) * (y - e[1]) == (e[3] - e[1]) * (x - e[0]);
        int along = (e[2] - e[0]) * (x - e[0]) + (e[3] - e[1]) * (y - e[1]);
        int whole = (e[2] - e[0]) * (e[2] - e[0]) + (e[3] - e[1]) * (e[3] - e[1]);
        return onLine && along > 0 && along < whole;
    }

    /** "the depth is the sum of each corner's weight times its depth, divided by the area, down". */
    private static void depthGoesDown() {
        int[][] depths = {
            {0, 0, 0, 0}, {1, 1, 1, 1}, {1, 1, 0, 0}, {1, 0, 1, 0}, {0, 1, 1, 0}, {2, 0, 0, 1}, {0, 2, 2, 1},
            {0, 3, 1, 1}, {0, 0, 3, 0}, {0, 0, 4, 1}, {1, 1, 2, 1}, {3, 1, 0, 1}, {3, 1, 1, 2},
            {DEEPEST, DEEPEST, DEEPEST, DEEPEST}, {DEEPEST, DEEPEST, DEEPEST - 1, DEEPEST - 1},
            {DEEPEST, 0, 0, DEEPEST / 2}, {0, DEEPEST, 0, DEEPEST / 4}, {0, 0, DEEPEST, DEEPEST / 4},
        };
        for (int[] d : depths) {
            for (int[] order : Scenes.ORDERS) {
                EdgeRaster r = new EdgeRaster();
                // Weights 512, 256, 256 of 1024; no Q takes part.
                r.corner(order[0], 0, 0, d[0], 1);
                r.corner(order[1], 32, 0, d[1], NEAREST);
                r.corner(order[2], 0, 32, d[2], 1000);
                CHECK.due("depth of " + Arrays.toString(d), d[3], () -> Scenes.onFirst(r).depth());
            }
        }
        for (int[] order : Scenes.ORDERS) {
            EdgeRaster great = new EdgeRaster();
            great.corner(order[0], FAR, 8, DEEPEST, 1);
            great.corner(order[1], BACK, FAR, DEEPEST, 1);
            great.corner(order[2], BACK, BACK, DEEPEST, 1);
            great.window(1023, 0, 1, 1);
            CHECK.due("greatest depth in the greatest area", DEEPEST, () -> Scenes.onFirst(great).depth());
            great.corner(order[1], BACK, FAR, DEEPEST - 1, 1);
            CHECK.due("just below it", DEEPEST - 1, () -> Scenes.onFirst(great).depth());
        }
    }

    /** "s being the least number, 0 or more, with which all three are below 2^29": each corner may be the greatest. */
    private static void shiftIsTheLeast() {
        for (int[] order : Scenes.ORDERS) {
            // Weights 64, 1, 0; a second share of 1 is there while s is 0 alone.
            CHECK.due("2^29 - 64 is not shifted", -5, () -> second(order, NEAREST - 1, 1));
            CHECK.due("2^29 is shifted", 0, () -> second(order, NEAREST, 1));
            CHECK.due("2^29 is shifted by 1", -8, () -> second(order, NEAREST, 2));
        }
        // Weights 192 each: 192 * 2796202 is the last below 2^29, 192 * 5592405 the last below 2^30.
        for (int[] order : Scenes.ORDERS) {
            CHECK.due("last with s 0", Math.floorDiv(-192L << 22, 192L * 2796202 + 192 + 192),
                    () -> thirds(order, 2796202, 1, 1, -(1 << 22)));
            CHECK.due("first with s 1", Math.floorDiv(-96L << 22, 96L * 2796203 + 96 + 96),
                    () -> thirds(order, 2796203, 1, 1, -(1 << 22)));
            CHECK.due("three greatest with s 0", -1, () -> thirds(order, 2796202, 2796202, 2796202, -3));
            CHECK.due("last with s 1", Math.floorDiv(96L * LOWEST, 96L * 5592405 + 96 + 96),
                    () -> thirds(order, 5592405, 1, 1, LOWEST));
            CHECK.due("first with s 2", Math.floorDiv(48L * LOWEST, 48L * 5592406 + 48 + 48),
                    () -> thirds(order, 5592406, 1, 1, LOWEST));
        }
        for (int[] order : Scenes.ORDERS) {
            // Weights 1, 0, 0: with any shift nothing would be left to divide by.
            EdgeRaster least = Scenes.ordered(order, 8, 8, 9, 8, 8, 9);
            least.value(order[0], 0, -77);
            CHECK.due("the least share is not shifted", -77, () -> Scenes.onFirst(least).at(0));
        }
    }

    private static long second(int[] order, int q, int secondQ) {
        EdgeRaster r = Scenes.ordered(order, 7, 8, 72, 8, 7, 9);
        r.corner(order[0], 7, 8, 0, q);
        r.corner(order[1], 72, 8, 0, secondQ);
        r.value(order[1], 0, LOWEST);
        return Scenes.onFirst(r).at(0);
    }

    private static long thirds(int[] order, int q0, int q1, int q2, int secondValue) {
        EdgeRaster r = new EdgeRaster();
        r.corner(order[0], 0, 0, 0, q0);
        r.corner(order[1], 24, 0, 0, q1);
        r.corner(order[2], 0, 24, 0, q2);
        r.value(order[1], 27, secondValue);
        return Scenes.onFirst(r).at(27);
    }

    /** The greatest weight times the greatest Q is just below 2^53, so s is 24 there. */
    private static void shiftIsTheGreatestThatCanBe() {
        for (int[] order : Scenes.ORDERS) {
            EdgeRaster r = new EdgeRaster();
            r.corner(order[0], FAR, 8, 0, NEAREST);
            r.corner(order[1], BACK, FAR, 0, NEAREST);
            r.corner(order[2], BACK, BACK, 0, 1);
            r.window(1023, 0, 1, 1);
            r.value(order[1], 9, HIGHEST);
            EdgeRaster walked = Scenes.onFirst(r);
            long w0 = 32767L * 32760;
            long w1 = 7L * (8 - BACK);
            CHECK.due("weight of the second point", w1, () -> walked.weight(order[1]));
            CHECK.due("weight of the third point", 7L * (FAR - 8), () -> walked.weight(order[2]));
            long share0 = (w0 << 23) >> 24;
            long share1 = (w1 << 23) >> 24;
            CHECK.due("value with s 24", Math.floorDiv(share1 * HIGHEST, share0 + share1), () -> walked.at(9));
        }
    }

    /** "The SHARE of a corner is its weight times its Q, divided by 2^s, down". */
    private static void shareGoesDown() {
        for (int[] order : Scenes.ORDERS) {
            // s is 1: of 3 there stays 1, of 1 nothing, of 5 there stay 2.
            CHECK.due("share of 3", Math.floorDiv((long) LOWEST, (1L << 28) + 1), () -> second(order, NEAREST, 3));
            CHECK.due("share of 1", 0, () -> second(order, NEAREST, 1));
            CHECK.due("share of 5", Math.floorDiv(2L * LOWEST, (1L << 28) + 2), () -> second(order, NEAREST, 5));
        }
    }

    /** "Value n is the sum of each corner's share times its value n, divided by the sum of the shares, down". */
    private static void valueGoesDown() {
        int[][] values = {
            {0, 0, 0, 0}, {1, 1, 1, 1}, {-1, -1, -1, -1}, {1, 1, 0, 0}, {-1, -1, 0, -1}, {0, 0, -1, -1}, {0, 0, 1, 0},
            {0, 0, 4, 1}, {0, 0, -4, -1}, {0, 0, -5, -2}, {0, 0, 5, 1}, {-4, 0, 0, -2}, {-5, 0, 0, -3}, {5, 0, 0, 2},
            {HIGHEST, HIGHEST, HIGHEST - 1, HIGHEST - 1}, {LOWEST, LOWEST, LOWEST + 1, LOWEST},
            {HIGHEST, LOWEST, LOWEST, -1}, {LOWEST, HIGHEST, HIGHEST, -1},
        };
        for (int[] v : values) {
            for (int[] order : Scenes.ORDERS) {
                EdgeRaster r = Scenes.ordered(order, 0, 0, 32, 0, 0, 32);
                for (int k = 0; k < 3; k++) {
                    r.value(order[k], 13, v[k]);
                }
                CHECK.due("value of " + Arrays.toString(v), v[3], () -> Scenes.onFirst(r).at(13));
            }
        }
        EdgeRaster near = Scenes.triangle(0, 0, 32, 0, 0, 32);
        near.corner(0, 0, 0, 0, 1);
        near.corner(1, 32, 0, 0, 2);
        near.corner(2, 0, 32, 0, 4);
        near.value(0, 13, 100);
        near.value(1, 13, 200);
        near.value(2, 13, 401);
        CHECK.due("value with unlike shares", (512 * 100 + 512 * 200 + 1024 * 401) / 2048,
                () -> Scenes.onFirst(near).at(13));
    }

    /** Three shares just below 2^29 with the least and the greatest ints: the sum needs more than 60 binary places. */
    private static void valueNeverWrapsAround() {
        int[] ints = {LOWEST, HIGHEST};
        for (int v : ints) {
            EdgeRaster r = Scenes.triangle(0, 0, 24, 0, 0, 24);
            int[][] points = {{0, 0}, {24, 0}, {0, 24}};
            for (int k = 0; k < 3; k++) {
                r.corner(k, points[k][0], points[k][1], 0, 2796202);
                r.value(k, 0, v);
            }
            CHECK.due("value of three times " + v, v, () -> Scenes.onFirst(r).at(0));
        }
    }

    /** "A WINDOW is a rectangle of places, from (x0, y0) on". */
    private static void windowIsARectangle() {
        EdgeRaster r = Scenes.triangle(BACK, BACK, FAR, BACK, FAR, FAR);
        r.window(700, 300, 3, 2);
        CHECK.due("many of the rectangle", 6, r::many);
        r.walk();
        int[] places = {700, 701, 702, 65536 + 700, 65536 + 701, 65536 + 702};
        for (int place : places) {
            CHECK.due("place of the rectangle", 65536L * 300 + place, r::next);
        }
        CHECK.due("end of the rectangle", EdgeRaster.NONE, r::next);
    }

    /** "at most 64 wide and high". */
    private static void windowIsAtMostSixtyFour() {
        EdgeRaster r = Scenes.triangle(BACK, BACK, FAR, BACK, FAR, FAR);
        CHECK.dueRange("wide", 1, 64, wide -> r.window(500, 0, wide, 3));
        CHECK.due("many, 64 wide", 192, r::many);
        CHECK.dueRange("high", 1, 64, high -> r.window(500, 0, 3, high));
        CHECK.due("many, 64 high", 192, r::many);
        r.window(500, 0, 64, 64);
        CHECK.due("many of the full window", 4096, r::many);
    }

    /** "A WALK goes over its places that are covered, row by row." */
    private static void walkGoesRowByRow() {
        dueFullWalk("64 wide", r -> r.window(500, 100, 64, 7), 64, 7);
        dueFullWalk("64 high", r -> r.window(500, 100, 7, 64), 7, 64);
        dueFullWalk("one place", r -> r.window(500, 100, 1, 1), 1, 1);
        // A thin triangle that holds the middles of (1, 1) and (4, 3), and none of the row between them.
        EdgeRaster thin = Scenes.triangle(96, 72, 0, 8, 50, 40);
        thin.window(0, 0, 9, 6);
        thin.walk();
        CHECK.due("first row with a place", 65536 + 1, thin::next);
        CHECK.due("a row without a place is passed", 3 * 65536 + 4, thin::next);
        CHECK.due("no further row", EdgeRaster.NONE, thin::next);
    }

    private static void dueFullWalk(String what, Consumer<EdgeRaster> window, int wide, int high) {
        EdgeRaster r = Scenes.triangle(BACK, BACK, FAR, BACK, FAR, FAR);
        window.accept(r);
        r.walk();
        for (int y = 100; y < 100 + high; y++) {
            for (int x = 500; x < 500 + wide; x++) {
                CHECK.due(what + ", next", 65536L * y + x, r::next);
            }
        }
        CHECK.due(what + ", end", EdgeRaster.NONE, r::next);
        CHECK.due(what + ", end again", EdgeRaster.NONE, r::next);
    }

    /** "An object is used for at most 512 calls": the last of them is still answered. */
    private static void lastOf512Calls() {
        EdgeRaster r = Scenes.triangle(BACK, BACK, FAR, BACK, FAR, FAR);
        r.window(500, 0, 64, 64);
        r.walk();
        for (int call = 6; call <= 512; call++) {
            int place = call - 6;
            CHECK.due("call " + call, 65536L * (place / 64) + 500 + place % 64, r::next);
        }
    }
}
