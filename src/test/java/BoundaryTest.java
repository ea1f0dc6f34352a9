import java.util.Arrays;
import java.util.function.Consumer;

/** The boundary cases that the promises of DOC.md name, in their order; refused calls are in RefusalTest too. */
public final class BoundaryTest {
    private static final Check CHECK = new Check();
    private static final int BACK = Scenes.BACK;
    private static final int FAR = Scenes.FAR;

    /** Every state of a walk, on the small triangle, whose walk has six places. */
    private static final int[] STEPS = {0, 1, 3, 6, 7, 9};

    public static void main(String[] args) {
        newCornersAtZero();
        newDepthsZero();
        newValuesZero();
        newNearnessOne();
        newWindowOfOnePlace();
        newHasNoWalk();
        cornerRefusesEachNumber();
        cornerEndsAWalk();
        cornerIsNewWhole();
        valueRefusesEachNumber();
        valueEndsAWalk();
        windowRefusesEachNumber();
        windowEndsAWalk();
        lastWindow();
        areaBelowZero();
        coversRange();
        coversOutsideOfTheWindow();
        coversFarOffDoesNotWrapAround();
        manyEmptyAndFull();
        walkBeginsAheadOfItsFirstPlace();
        walkBeginsAnew();
        nextWithoutWalk();
        nextNumbersPlaces();
        nextIsNoneForEver();
        nextInAnEmptyWindow();
        weightRefusals();
        depthRefusals();
        atRefusals();
        argumentGoesFirst();
        questionsChangeNothing();
        CHECK.end();
    }

    private static EdgeRaster stepped(int steps) {
        EdgeRaster r = Scenes.small();
        r.walk();
        for (int k = 0; k < steps; k++) {
            r.next();
        }
        return r;
    }

    private static boolean onPlace(int steps) {
        return steps >= 1 && steps <= 6;
    }

    private static void dueNoWalk(String what, EdgeRaster r) {
        CHECK.dueState(what + ", next", r::next);
        CHECK.dueState(what + ", weight", () -> r.weight(0));
        CHECK.dueState(what + ", depth", r::depth);
        CHECK.dueState(what + ", at", () -> r.at(0));
    }

    /** Promise 1: "All corners at (0, 0)". */
    private static void newCornersAtZero() {
        CHECK.due("P1 area", 0, () -> new EdgeRaster().area());
        for (int k = 0; k < 3; k++) {
            EdgeRaster r = new EdgeRaster();
            int moved = k;
            r.corner((k + 1) % 3, 100, 7, 0, 1);
            CHECK.due("P1 area with two corners at (0, 0)", 0, r::area);
            r.corner((k + 2) % 3, 9, 200, 0, 1);
            CHECK.due("P1 area with corner " + moved + " at (0, 0)", 100 * 200 - 9 * 7, r::area);
        }
    }

    /** Corner j stays as it was made; the two others have the weights 256 each of 1024. */
    private static EdgeRaster madeCorner(int j, int depth, int q, int v) {
        EdgeRaster r = new EdgeRaster();
        r.corner((j + 1) % 3, 32, 0, depth, q);
        r.corner((j + 2) % 3, 0, 32, depth, q);
        for (int n = 0; n < 28; n++) {
            r.value((j + 1) % 3, n, v);
            r.value((j + 2) % 3, n, v);
        }
        return Scenes.onFirst(r);
    }

    /** Promise 1: "depths .. 0". */
    private static void newDepthsZero() {
        for (int j = 0; j < 3; j++) {
            EdgeRaster r = madeCorner(j, 1, 1, 0);
            EdgeRaster even = madeCorner(j, 2, 1, 0);
            CHECK.due("P1 depth", 0, r::depth);
            CHECK.due("P1 depth", 1, even::depth);
        }
    }

    /** Promise 1: "values 0". */
    private static void newValuesZero() {
        for (int j = 0; j < 3; j++) {
            EdgeRaster r = madeCorner(j, 0, 1, 1000);
            for (int n = 0; n < 28; n++) {
                int value = n;
                CHECK.due("P1 at(" + n + ")", 500, () -> r.at(value));
            }
        }
    }

    /** Promise 1: "Q 1". */
    private static void newNearnessOne() {
        for (int j = 0; j < 3; j++) {
            EdgeRaster r = madeCorner(j, 0, 3, 1000);
            CHECK.due("P1 at with the others three times as near", 750, () -> r.at(0));
        }
    }

    /** Promise 1: "a window of one place at (0, 0)". */
    private static void newWindowOfOnePlace() {
        EdgeRaster r = Scenes.triangle(BACK, BACK, FAR, BACK, FAR, FAR);
        // (0, 0) is on that triangle's long left edge.
        CHECK.due("P1 covers (0, 0)", 1, () -> Scenes.covered(r, 0, 0));
        CHECK.due("P1 many", 1, r::many);
        r.walk();
        CHECK.due("P1 next", 0, r::next);
        CHECK.due("P1 no further place", EdgeRaster.NONE, r::next);
    }

    /** Promise 1: "there is no walk". */
    private static void newHasNoWalk() {
        dueNoWalk("P1 new", new EdgeRaster());
    }

    /** Promise 2: "IllegalArgumentException if one of them is not as it must be." */
    private static void cornerRefusesEachNumber() {
        EdgeRaster r = new EdgeRaster();
        CHECK.dueRange("P2 j", 0, 2, j -> r.corner(j, 1, 2, 3, 4));
        for (int k = 0; k < 3; k++) {
            int j = k;
            CHECK.dueRange("P2 x of " + j, BACK, FAR, x -> r.corner(j, x, 2, 3, 4));
            CHECK.dueRange("P2 y of " + j, BACK, FAR, y -> r.corner(j, 1, y, 3, 4));
            CHECK.dueRange("P2 depth of " + j, 0, Scenes.DEEPEST, depth -> r.corner(j, 1, 2, depth, 4));
            CHECK.dueRange("P2 q of " + j, 1, Scenes.NEAREST, q -> r.corner(j, 1, 2, 3, q));
        }
        CHECK.dueDone("P2 all least", () -> r.corner(0, BACK, BACK, 0, 1));
        CHECK.dueDone("P2 all greatest", () -> r.corner(2, FAR, FAR, Scenes.DEEPEST, Scenes.NEAREST));
        CHECK.dueArgument("P2 all too small", () -> r.corner(-1, BACK - 1, BACK - 1, -1, 0));
        CHECK.dueArgument("P2 all too great",
                () -> r.corner(3, FAR + 1, FAR + 1, Scenes.DEEPEST + 1, Scenes.NEAREST + 1));
    }

    private static void dueEndsWalk(String what, Consumer<EdgeRaster> call) {
        for (int steps : STEPS) {
            EdgeRaster r = stepped(steps);
            call.accept(r);
            dueNoWalk(what + " after " + steps + " steps", r);
            r.walk();
            CHECK.due(what + ", a new walk", 0, r::next);
        }
        EdgeRaster without = Scenes.small();
        call.accept(without);
        dueNoWalk(what + " without a walk", without);
    }

    /** Promise 2: "a walk ends", even if nothing else changes. */
    private static void cornerEndsAWalk() {
        dueEndsWalk("P2 the same corner 0", r -> r.corner(0, 0, 0, 0, 1));
        dueEndsWalk("P2 the same corner 1", r -> r.corner(1, 64, 0, 0, 1));
        dueEndsWalk("P2 the same corner 2", r -> r.corner(2, 0, 64, 0, 1));
        dueEndsWalk("P2 another depth", r -> r.corner(2, 0, 64, 5, 1));
    }

    /** Promise 2: "A corner's place, depth and Q": all become the new ones, and the values stay. */
    private static void cornerIsNewWhole() {
        for (int k = 0; k < 3; k++) {
            EdgeRaster r = madeCorner(k, 1000, 3, 1000);
            r.value(k, 0, 80);
            r.corner(k, 1, 1, 77, 5);
            r.corner(k, 0, 0, 8, 9);
            Scenes.onFirst(r);
            CHECK.due("P2 depth of the last call", 504, r::depth);
            CHECK.due("P2 value that stays, Q of the last call", (9 * 80 + 3 * 1000) / 12, () -> r.at(0));
        }
    }

    /** Promise 3: "Value n (0 .. 27) of corner j becomes v .. IllegalArgumentException if there is none such." */
    private static void valueRefusesEachNumber() {
        EdgeRaster r = new EdgeRaster();
        for (int n = 0; n < 28; n++) {
            int value = n;
            CHECK.dueRange("P3 j of value " + n, 0, 2, j -> r.value(j, value, 5));
        }
        for (int k = 0; k < 3; k++) {
            int j = k;
            CHECK.dueRange("P3 n of " + j, 0, 27, n -> r.value(j, n, 5));
            CHECK.dueRange("P3 n of " + j + " with the least v", 0, 27, n -> r.value(j, n, Integer.MIN_VALUE));
            CHECK.dueRange("P3 n of " + j + " with the greatest v", 0, 27, n -> r.value(j, n, Integer.MAX_VALUE));
        }
        CHECK.dueArgument("P3 both too small", () -> r.value(-1, -1, 5));
        CHECK.dueArgument("P3 both too great", () -> r.value(3, 28, 5));
        CHECK.dueArgument("P3 j too great, n too small", () -> r.value(3, -1, 5));
        CHECK.dueArgument("P3 j too small, n too great", () -> r.value(-1, 28, 5));
    }

    /** Promise 3: "a walk ends", even if the value is the same. */
    private static void valueEndsAWalk() {
        dueEndsWalk("P3 the same value", r -> r.value(0, 0, 0));
        dueEndsWalk("P3 another value", r -> r.value(2, 27, 5));
    }

    /** Promise 4: "IllegalArgumentException if x0 or y0 is not 0 .. 1023, or wide or high not 1 .. 64." */
    private static void windowRefusesEachNumber() {
        EdgeRaster r = new EdgeRaster();
        CHECK.dueRange("P4 x0", 0, 1023, x0 -> r.window(x0, 5, 6, 7));
        CHECK.dueRange("P4 y0", 0, 1023, y0 -> r.window(5, y0, 6, 7));
        CHECK.dueRange("P4 wide", 1, 64, wide -> r.window(5, 6, wide, 7));
        CHECK.dueRange("P4 high", 1, 64, high -> r.window(5, 6, 7, high));
        CHECK.dueDone("P4 all least", () -> r.window(0, 0, 1, 1));
        CHECK.dueDone("P4 all greatest", () -> r.window(1023, 1023, 64, 64));
        CHECK.dueArgument("P4 all too small", () -> r.window(-1, -1, 0, 0));
        CHECK.dueArgument("P4 all too great", () -> r.window(1024, 1024, 65, 65));
        CHECK.dueArgument("P4 wide -1", () -> r.window(5, 6, -1, 7));
        CHECK.dueArgument("P4 high -1", () -> r.window(5, 6, 7, -1));
    }

    /** Promise 4: "a walk ends", even if the window is the same. */
    private static void windowEndsAWalk() {
        dueEndsWalk("P4 the same window", r -> r.window(0, 0, 8, 8));
        dueEndsWalk("P4 another window", r -> r.window(0, 0, 1, 1));
    }

    /** Promise 4: the last window begins on the last place that a triangle can cover. */
    private static void lastWindow() {
        EdgeRaster r = Scenes.triangle(FAR, FAR, BACK, FAR, FAR, BACK);
        int[][] windows = {{1023, 1023}, {1022, 1023}, {1023, 1022}, {1022, 1022}};
        int[] many = {1, 2, 2, 4};
        for (int k = 0; k < windows.length; k++) {
            int[] w = windows[k];
            r.window(w[0], w[1], 64, 64);
            CHECK.due("P4 many from " + Arrays.toString(w), many[k], r::many);
            r.walk();
            CHECK.due("P4 next from " + Arrays.toString(w), 65536L * w[1] + w[0], r::next);
            for (int step = 1; step < many[k]; step++) {
                r.next();
            }
            CHECK.due("P4 end from " + Arrays.toString(w), EdgeRaster.NONE, r::next);
        }
    }

    /** Promise 5: "The area, below 0 if corners are turned." */
    private static void areaBelowZero() {
        CHECK.due("P5 least above 0", 1, () -> Scenes.triangle(0, 0, 1, 0, 0, 1).area());
        CHECK.due("P5 0", 0, () -> Scenes.triangle(0, 0, 1, 0, 2, 0).area());
        CHECK.due("P5 greatest below 0", -1, () -> Scenes.triangle(0, 0, 0, 1, 1, 0).area());
        CHECK.due("P5 greatest", 1073676289, () -> Scenes.triangle(FAR, FAR, BACK, FAR, FAR, BACK).area());
        CHECK.due("P5 least", -1073676289, () -> Scenes.triangle(FAR, FAR, FAR, BACK, BACK, FAR).area());
        EdgeRaster r = Scenes.small();
        r.corner(0, 64, 64, 0, 1);
        CHECK.due("P5 turned by corner", -4096, r::area);
        r.corner(0, 32, 32, 0, 1);
        CHECK.due("P5 flat", 0, r::area);
        r.corner(0, 31, 32, 0, 1);
        CHECK.due("P5 turned back", 64, r::area);
    }

    /** Promise 6: "IllegalArgumentException if x or y is not -1024 .. 2047." */
    private static void coversRange() {
        EdgeRaster[] shapes = {new EdgeRaster(), Scenes.small(), Scenes.triangle(0, 0, 0, 64, 64, 0)};
        for (EdgeRaster r : shapes) {
            CHECK.dueRange("P6 x", -1024, 2047, x -> r.covers(x, 0));
            CHECK.dueRange("P6 y", -1024, 2047, y -> r.covers(0, y));
            CHECK.dueArgument("P6 both too small", () -> Scenes.covered(r, -1025, -1025));
            CHECK.dueArgument("P6 both too great", () -> Scenes.covered(r, 2048, 2048));
            CHECK.due("P6 both least", 0, () -> Scenes.covered(r, -1024, -1024));
            CHECK.due("P6 both greatest", 0, () -> Scenes.covered(r, 2047, 2047));
        }
        EdgeRaster whole = Scenes.triangle(BACK, BACK, FAR, BACK, BACK, FAR);
        CHECK.due("P6 least place", 1, () -> Scenes.covered(whole, -1024, -1024));
        CHECK.due("P6 last of the first row", 1, () -> Scenes.covered(whole, 1022, -1024));
        CHECK.due("P6 beyond the first row", 0, () -> Scenes.covered(whole, 1023, -1024));
        CHECK.due("P6 last of the first column", 1, () -> Scenes.covered(whole, -1024, 1022));
        CHECK.due("P6 beyond the first column", 0, () -> Scenes.covered(whole, -1024, 1023));
        EdgeRaster other = Scenes.triangle(FAR, FAR, BACK, FAR, FAR, BACK);
        CHECK.due("P6 last place", 1, () -> Scenes.covered(other, 1023, 1023));
        CHECK.due("P6 right of the last place", 0, () -> Scenes.covered(other, 1024, 1023));
        CHECK.due("P6 below the last place", 0, () -> Scenes.covered(other, 1023, 1024));
    }

    /** Promise 6: "Whether a place (in the window or not) is covered." */
    private static void coversOutsideOfTheWindow() {
        EdgeRaster r = Scenes.small();
        int[][] windows = {{0, 0, 8, 8}, {0, 0, 1, 1}, {1, 1, 1, 1}, {1000, 1000, 64, 64}};
        for (int[] w : windows) {
            r.window(w[0], w[1], w[2], w[3]);
            for (int place = 0; place < 36; place++) {
                int x = place % 6 - 1;
                int y = place / 6 - 1;
                CHECK.due("P6 covers(" + x + ", " + y + ") with the window " + Arrays.toString(w),
                        x >= 0 && y >= 0 && x + y <= 2 ? 1 : 0, () -> Scenes.covered(r, x, y));
            }
        }
        EdgeRaster before = Scenes.triangle(-40, -40, -8, -40, -40, -8);
        CHECK.due("P6 a place before (0, 0)", 1, () -> Scenes.covered(before, -3, -3));
        CHECK.due("P6 its long edge", 0, () -> Scenes.covered(before, -2, -2));
    }

    /** Promise 6: the greatest weights there are, far from the triangle, lie just inside of the ints. */
    private static void coversFarOffDoesNotWrapAround() {
        int[][] shapes = {
            {BACK, FAR, FAR, BACK, BACK, BACK}, {BACK, FAR, FAR, BACK, FAR, FAR},
            {BACK, BACK, FAR, BACK, FAR, FAR}, {BACK, BACK, FAR, FAR, BACK, FAR},
            {BACK, BACK, FAR, BACK + 1, BACK + 1, FAR},
        };
        int[][] places = {{2047, 2047}, {2047, -1024}, {-1024, 2047}, {2047, 0}, {0, 2047}, {1024, 1024}};
        for (int[] xy : shapes) {
            for (int[] order : Scenes.ORDERS) {
                EdgeRaster r = Scenes.ordered(order, xy);
                for (int[] place : places) {
                    CHECK.due("P6 covers" + Arrays.toString(place) + " of " + Arrays.toString(xy), 0,
                            () -> Scenes.covered(r, place[0], place[1]));
                }
            }
        }
    }

    /** Promise 7: "How many places of the window are covered": none, one, some, all. */
    private static void manyEmptyAndFull() {
        EdgeRaster r = Scenes.small();
        int[][] windows = {
            {0, 0, 8, 8, 6}, {0, 0, 64, 64, 6}, {0, 0, 3, 3, 6}, {0, 0, 2, 2, 4}, {0, 0, 2, 1, 2}, {0, 0, 1, 1, 1},
            {2, 0, 1, 1, 1}, {3, 0, 1, 1, 0}, {0, 2, 1, 1, 1}, {0, 3, 1, 1, 0}, {2, 1, 9, 9, 0}, {1, 1, 9, 9, 1},
            {1023, 1023, 64, 64, 0}, {1, 0, 1, 64, 2}, {0, 1, 64, 1, 2},
        };
        for (int[] w : windows) {
            r.window(w[0], w[1], w[2], w[3]);
            CHECK.due("P7 many in " + Arrays.toString(w), w[4], r::many);
        }
        EdgeRaster full = Scenes.triangle(BACK, BACK, FAR, BACK, BACK, FAR);
        full.corner(0, FAR, FAR, 0, 1);
        full.window(959, 959, 64, 64);
        CHECK.due("P7 many of a full window", 4096, full::many);
        full.window(960, 960, 64, 64);
        CHECK.due("P7 many up to the last place", 4096, full::many);
        full.window(961, 960, 64, 64);
        CHECK.due("P7 many one column beyond", 4096 - 64, full::many);
        CHECK.due("P7 many of a new object", 0, () -> new EdgeRaster().many());
    }

    /** Promise 8: "A walk begins, ahead of its first place." */
    private static void walkBeginsAheadOfItsFirstPlace() {
        EdgeRaster r = stepped(0);
        CHECK.dueState("P8 weight", () -> r.weight(0));
        CHECK.dueState("P8 depth", r::depth);
        CHECK.dueState("P8 at", () -> r.at(0));
        CHECK.due("P8 next", 0, r::next);
        EdgeRaster away = Scenes.triangle(BACK, BACK, FAR, BACK, FAR, FAR);
        away.window(700, 300, 1, 1);
        away.walk();
        CHECK.due("P8 first place away from (0, 0)", 65536L * 300 + 700, away::next);
    }

    /** Promise 8: a walk may begin in every state, and goes over all places then. */
    private static void walkBeginsAnew() {
        int[] places = {0, 1, 2, 65536, 65537, 131072, EdgeRaster.NONE};
        for (int steps : STEPS) {
            EdgeRaster r = stepped(steps);
            r.walk();
            CHECK.dueState("P8 weight of the new walk", () -> r.weight(0));
            for (int place : places) {
                CHECK.due("P8 next of the new walk after " + steps + " steps", place, r::next);
            }
        }
    }

    /** Promise 9: "IllegalStateException if there is no walk." */
    private static void nextWithoutWalk() {
        EdgeRaster r = new EdgeRaster();
        CHECK.dueState("P9 next of a new object", r::next);
        CHECK.dueState("P9 next again", r::next);
        EdgeRaster small = Scenes.small();
        CHECK.dueState("P9 next before a walk", small::next);
        small.many();
        Scenes.covered(small, 0, 0);
        CHECK.dueState("P9 no question begins a walk", small::next);
    }

    /** Promise 9: "65536 y + x". */
    private static void nextNumbersPlaces() {
        EdgeRaster r = Scenes.triangle(BACK, BACK, FAR, BACK, FAR, FAR);
        EdgeRaster other = Scenes.triangle(FAR, FAR, BACK, FAR, FAR, BACK);
        EdgeRaster lower = Scenes.triangle(BACK, BACK, FAR, FAR, BACK, FAR);
        dueNumber(r, 0, 0, 0);
        dueNumber(r, 1, 0, 1);
        dueNumber(lower, 0, 1, 65536);
        dueNumber(r, 1023, 0, 1023);
        dueNumber(lower, 0, 1022, 65536 * 1022);
        dueNumber(lower, 0, 1023, 67043328);
        dueNumber(other, 1023, 1023, 67044351);
    }

    private static void dueNumber(EdgeRaster r, int x, int y, int number) {
        r.window(x, y, 1, 1);
        r.walk();
        CHECK.due("P9 number of (" + x + ", " + y + ")", number, r::next);
        CHECK.due("P9 one place alone", EdgeRaster.NONE, r::next);
    }

    /** Promise 9: "NONE if there is no further one", however often; the walk is still there. */
    private static void nextIsNoneForEver() {
        EdgeRaster r = stepped(6);
        for (int k = 0; k < 100; k++) {
            CHECK.due("P9 next after the last place", EdgeRaster.NONE, r::next);
        }
        // A full window: the last place of the last row is its end.
        EdgeRaster full = Scenes.triangle(BACK, BACK, FAR, BACK, FAR, FAR);
        full.window(100, 0, 2, 2);
        full.walk();
        int[] places = {100, 101, 65536 + 100, 65536 + 101, EdgeRaster.NONE, EdgeRaster.NONE, EdgeRaster.NONE};
        for (int place : places) {
            CHECK.due("P9 next of a full window", place, full::next);
        }
    }

    /** Promise 9: no place is covered at all. */
    private static void nextInAnEmptyWindow() {
        EdgeRaster[] empty = {new EdgeRaster(), Scenes.small(), Scenes.triangle(8, 8, 40, 40, 24, 24)};
        empty[1].window(3, 3, 64, 64);
        empty[2].window(0, 0, 64, 64);
        for (EdgeRaster r : empty) {
            r.walk();
            for (int k = 0; k < 3; k++) {
                CHECK.due("P9 next in an empty window", EdgeRaster.NONE, r::next);
                CHECK.dueState("P10 weight in an empty window", () -> r.weight(0));
                CHECK.dueState("P11 depth in an empty window", r::depth);
                CHECK.dueState("P12 at in an empty window", () -> r.at(0));
            }
        }
    }

    /** Promise 10: "IllegalArgumentException if there is no such corner; IllegalStateException if ..". */
    private static void weightRefusals() {
        for (int steps : STEPS) {
            EdgeRaster r = stepped(steps);
            for (int k = 0; k < 3; k++) {
                int j = k;
                if (onPlace(steps)) {
                    CHECK.due("P10 weight after " + steps + " steps", dueWeight(j, steps), () -> r.weight(j));
                } else {
                    CHECK.dueState("P10 weight after " + steps + " steps", () -> r.weight(j));
                }
            }
        }
        EdgeRaster r = stepped(6);
        CHECK.dueRange("P10 j", 0, 2, r::weight);
    }

    /** At (x, y) corner 1 has 64 (16 x + 8), corner 2 has 64 (16 y + 8), and all three have 4096. */
    private static long dueWeight(int j, int steps) {
        int[][] places = {{0, 0}, {1, 0}, {2, 0}, {0, 1}, {1, 1}, {0, 2}};
        long across = 64 * (16 * places[steps - 1][0] + 8);
        long down = 64 * (16 * places[steps - 1][1] + 8);
        return j == 0 ? 4096 - across - down : j == 1 ? across : down;
    }

    /** Promise 11: "IllegalStateException as for weight()." */
    private static void depthRefusals() {
        for (int steps : STEPS) {
            EdgeRaster r = stepped(steps);
            if (onPlace(steps)) {
                CHECK.due("P11 depth after " + steps + " steps", 0, r::depth);
            } else {
                CHECK.dueState("P11 depth after " + steps + " steps", r::depth);
            }
        }
        CHECK.dueState("P11 depth without a walk", () -> Scenes.small().depth());
        CHECK.dueState("P11 depth of a new object", () -> new EdgeRaster().depth());
    }

    /** Promise 12: "IllegalArgumentException if n is not 0 .. 27; IllegalStateException as for weight()." */
    private static void atRefusals() {
        for (int steps : STEPS) {
            EdgeRaster r = stepped(steps);
            for (int k = 0; k < 28; k++) {
                int n = k;
                if (onPlace(steps)) {
                    CHECK.due("P12 at after " + steps + " steps", 0, () -> r.at(n));
                } else {
                    CHECK.dueState("P12 at after " + steps + " steps", () -> r.at(n));
                }
            }
        }
        EdgeRaster r = stepped(6);
        CHECK.dueRange("P12 n", 0, 27, r::at);
        CHECK.dueState("P12 at without a walk", () -> Scenes.small().at(27));
    }

    /** Promises 10 and 12: where both exceptions are due, the shared tests have that of the argument. */
    private static void argumentGoesFirst() {
        int[] wrongCorners = {-1, 3, Integer.MIN_VALUE, Integer.MAX_VALUE};
        int[] wrongValues = {-1, 28, Integer.MIN_VALUE, Integer.MAX_VALUE};
        EdgeRaster[] states = {new EdgeRaster(), Scenes.small(), stepped(0), stepped(1), stepped(7), stepped(9)};
        for (EdgeRaster r : states) {
            for (int j : wrongCorners) {
                CHECK.dueArgument("P10 weight(" + j + ")", () -> r.weight(j));
            }
            for (int n : wrongValues) {
                CHECK.dueArgument("P12 at(" + n + ")", () -> r.at(n));
            }
        }
    }

    /** area, covers, many, weight, depth and at are questions: no state of a walk is changed by them. */
    private static void questionsChangeNothing() {
        int[] places = {0, 1, 2, 65536, 65537, 131072, EdgeRaster.NONE, EdgeRaster.NONE};
        EdgeRaster r = stepped(0);
        for (int k = 0; k < places.length; k++) {
            ask(r);
            CHECK.due("next after questions", places[k], r::next);
            ask(r);
            int steps = k + 1;
            if (onPlace(steps)) {
                CHECK.due("weight after questions", dueWeight(1, steps), () -> r.weight(1));
            } else {
                CHECK.dueState("weight after questions", () -> r.weight(1));
            }
        }
    }

    private static void ask(EdgeRaster r) {
        r.area();
        r.many();
        r.covers(-1024, 2047);
        r.covers(1, 1);
        Check.answer(() -> r.weight(2));
        Check.answer(r::depth);
        Check.answer(() -> r.at(27));
    }
}
