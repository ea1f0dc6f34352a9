import java.util.Arrays;

/** Each promise of DOC.md: ordinary inputs, the edges that the document names, and wrong inputs. */
public final class PromisesTest {
    private static final Check CHECK = new Check();
    private static final int FAR = Scenes.FAR;
    private static final int BACK = Scenes.BACK;

    public static void main(String[] args) {
        newObject();
        newObjectCorners();
        cornerLimits();
        cornerEndsWalk();
        valueLimits();
        valueEndsWalk();
        windowLimits();
        windowEndsWalk();
        areaAndTurning();
        coversLimits();
        coversEdges();
        coversOutsideWindow();
        sharedEdges();
        manyCounts();
        walkBegins();
        nextGoesRowByRow();
        weightsOfCorners();
        weightRefusals();
        depthGoesDown();
        depthRefusals();
        valuesAsSeen();
        valuesGoDown();
        valuesWithShift();
        shiftBeginsAtLimit();
        valueRefusals();
        questionsKeepTheWalk();
        throwingCallsChangeNothing();
        CHECK.end();
    }

    private static void newObject() {
        EdgeRaster r = new EdgeRaster();
        CHECK.due("P1 area", 0, r::area);
        CHECK.due("P1 covers", 0, () -> Scenes.covered(r, 0, 0));
        CHECK.due("P1 many", 0, r::many);
        CHECK.dueState("P1 next without walk", r::next);
        CHECK.dueState("P1 weight without walk", () -> r.weight(0));
        CHECK.dueState("P1 depth without walk", r::depth);
        CHECK.dueState("P1 at without walk", () -> r.at(0));
        r.corner(0, BACK, BACK, 0, 1);
        r.corner(1, FAR, BACK, 0, 1);
        r.corner(2, BACK, FAR, 0, 1);
        // The triangle's long edge goes through (-1, -1) in sixteenths, so (0, 0) lies beyond it.
        CHECK.due("P1 many beyond the edge", 0, r::many);
        r.corner(0, FAR, FAR, 0, 1);
        CHECK.due("P1 window is one place", 1, r::many);
        r.walk();
        CHECK.due("P1 window is at (0, 0)", 0, r::next);
        CHECK.due("P1 window ends", EdgeRaster.NONE, r::next);
    }

    private static void newObjectCorners() {
        for (int k = 0; k < 3; k++) {
            EdgeRaster r = new EdgeRaster();
            int untouched = k;
            int a = (k + 1) % 3;
            int b = (k + 2) % 3;
            r.corner(a, 32, 0, 4096, 3);
            r.corner(b, 0, 32, 4096, 3);
            CHECK.due("P1 untouched corner lies at (0, 0)", 1024, r::area);
            for (int n = 0; n < 28; n++) {
                r.value(a, n, 1000);
                r.value(b, n, 1000);
            }
            r.walk();
            CHECK.due("P1 next", 0, r::next);
            CHECK.due("P1 weight", 512, () -> r.weight(untouched));
            CHECK.due("P1 untouched depth is 0", 2048, r::depth);
            for (int n = 0; n < 28; n++) {
                int value = n;
                CHECK.due("P1 untouched value is 0, Q 1", 750, () -> r.at(value));
            }
        }
    }

    private static void cornerLimits() {
        EdgeRaster r = new EdgeRaster();
        int least = Integer.MIN_VALUE;
        int most = Integer.MAX_VALUE;
        int[][] wrong = {
            {-1, 0, 0, 0, 1}, {3, 0, 0, 0, 1}, {least, 0, 0, 0, 1}, {most, 0, 0, 0, 1},
            {0, -16385, 0, 0, 1}, {0, 16384, 0, 0, 1}, {0, least, 0, 0, 1}, {0, most, 0, 0, 1},
            {0, 0, -16385, 0, 1}, {0, 0, 16384, 0, 1}, {0, 0, least, 0, 1}, {0, 0, most, 0, 1},
            {0, 0, 0, -1, 1}, {0, 0, 0, 1 << 24, 1}, {0, 0, 0, least, 1}, {0, 0, 0, most, 1},
            {0, 0, 0, 0, 0}, {0, 0, 0, 0, -1}, {0, 0, 0, 0, (1 << 23) + 1}, {0, 0, 0, 0, least}, {0, 0, 0, 0, most},
        };
        for (int[] w : wrong) {
            CHECK.dueArgument("P2 corner" + Arrays.toString(w), () -> r.corner(w[0], w[1], w[2], w[3], w[4]));
        }
        int[][] right = {
            {0, BACK, BACK, 0, 1}, {1, FAR, BACK, (1 << 24) - 1, 1 << 23}, {2, FAR, FAR, 0, 1}, {2, BACK, FAR, 0, 1},
        };
        for (int[] w : right) {
            CHECK.due("P2 corner" + Arrays.toString(w), 0,
                    Check.asSupplier(() -> r.corner(w[0], w[1], w[2], w[3], w[4])));
        }
        CHECK.due("P2 greatest area", 32767L * 32767L, r::area);
    }

    private static void cornerEndsWalk() {
        EdgeRaster r = Scenes.small();
        r.walk();
        r.next();
        r.corner(0, 0, 0, 0, 1);
        CHECK.dueState("P2 next after corner", r::next);
        CHECK.dueState("P2 weight after corner", () -> r.weight(0));
        CHECK.dueState("P2 depth after corner", r::depth);
        CHECK.dueState("P2 at after corner", () -> r.at(0));
    }

    private static void valueLimits() {
        EdgeRaster r = Scenes.small();
        int[][] wrong = {
            {-1, 0}, {3, 0}, {Integer.MIN_VALUE, 0}, {Integer.MAX_VALUE, 0},
            {0, -1}, {0, 28}, {2, Integer.MIN_VALUE}, {2, Integer.MAX_VALUE}, {3, 28},
        };
        for (int[] w : wrong) {
            CHECK.dueArgument("P3 value" + Arrays.toString(w), () -> r.value(w[0], w[1], 5));
        }
        for (int j = 0; j < 3; j++) {
            for (int n = 0; n < 28; n++) {
                r.value(j, n, 8000 * (j + 1) + 80 * n);
            }
        }
        r.walk();
        r.next();
        for (int n = 0; n < 28; n++) {
            int value = n;
            // Weights 3072, 512, 512 of 4096: 3/4, 1/8, 1/8.
            CHECK.due("P3 at(" + n + ")", 6000 + 2000 + 3000 + 80L * n, () -> r.at(value));
        }
    }

    private static void valueEndsWalk() {
        EdgeRaster r = Scenes.small();
        r.walk();
        r.next();
        r.value(0, 0, 0);
        CHECK.dueState("P3 next after value", r::next);
        CHECK.dueState("P3 weight after value", () -> r.weight(0));
        CHECK.dueState("P3 depth after value", r::depth);
        CHECK.dueState("P3 at after value", () -> r.at(0));
    }

    private static void windowLimits() {
        EdgeRaster r = Scenes.triangle(0, 0, FAR, 0, 0, FAR);
        int least = Integer.MIN_VALUE;
        int most = Integer.MAX_VALUE;
        int[][] wrong = {
            {-1, 0, 1, 1}, {1024, 0, 1, 1}, {least, 0, 1, 1}, {most, 0, 1, 1},
            {0, -1, 1, 1}, {0, 1024, 1, 1}, {0, least, 1, 1}, {0, most, 1, 1},
            {0, 0, 0, 1}, {0, 0, 65, 1}, {0, 0, least, 1}, {0, 0, most, 1},
            {0, 0, 1, 0}, {0, 0, 1, 65}, {0, 0, 1, least}, {0, 0, 1, most},
        };
        for (int[] w : wrong) {
            CHECK.dueArgument("P4 window" + Arrays.toString(w), () -> r.window(w[0], w[1], w[2], w[3]));
        }
        int[][] right = {{0, 0, 64, 64}, {0, 0, 1, 1}, {0, 0, 64, 1}, {0, 0, 1, 64}};
        for (int[] w : right) {
            r.window(w[0], w[1], w[2], w[3]);
            CHECK.due("P4 many in " + Arrays.toString(w), w[2] * w[3], r::many);
        }
        r.window(1023, 1023, 64, 64);
        CHECK.due("P4 many in the last window", 0, r::many);
        EdgeRaster last = Scenes.triangle(FAR, FAR, BACK, FAR, FAR, BACK);
        last.window(1023, 1023, 64, 64);
        CHECK.due("P4 many of the last place", 1, last::many);
        last.walk();
        CHECK.due("P4 the last place", 65536L * 1023 + 1023, last::next);
    }

    private static void windowEndsWalk() {
        EdgeRaster r = Scenes.small();
        r.walk();
        r.next();
        r.window(0, 0, 8, 8);
        CHECK.dueState("P4 next after window", r::next);
        CHECK.dueState("P4 weight after window", () -> r.weight(0));
        CHECK.dueState("P4 depth after window", r::depth);
        CHECK.dueState("P4 at after window", () -> r.at(0));
    }

    private static void areaAndTurning() {
        CHECK.due("P5 area", 4096, () -> Scenes.triangle(0, 0, 64, 0, 0, 64).area());
        CHECK.due("P5 area turned", -4096, () -> Scenes.triangle(0, 0, 0, 64, 64, 0).area());
        CHECK.due("P5 area of a line", 0, () -> Scenes.triangle(0, 0, 10, 10, 30, 30).area());
        CHECK.due("P5 area of a point", 0, () -> Scenes.triangle(7, 7, 7, 7, 7, 7).area());
        CHECK.due("P5 area away from (0, 0)", 13 * 17 - 5 * 3, () -> Scenes.triangle(100, -50, 113, -47, 105, -33).area());
        CHECK.due("P5 greatest", 32767L * 32767L, () -> Scenes.triangle(BACK, BACK, FAR, BACK, FAR, FAR).area());
        CHECK.due("P5 least", -32767L * 32767L, () -> Scenes.triangle(BACK, BACK, FAR, FAR, FAR, BACK).area());
    }

    private static void coversLimits() {
        EdgeRaster r = Scenes.triangle(BACK, BACK, FAR, BACK, BACK, FAR);
        int[] wrong = {-1025, 2048, Integer.MIN_VALUE, Integer.MAX_VALUE};
        for (int w : wrong) {
            CHECK.dueArgument("P6 covers(" + w + ", 0)", () -> Scenes.covered(r, w, 0));
            CHECK.dueArgument("P6 covers(0, " + w + ")", () -> Scenes.covered(r, 0, w));
        }
        CHECK.due("P6 covers(-1024, -1024)", 1, () -> Scenes.covered(r, -1024, -1024));
        CHECK.due("P6 covers(1022, -1024)", 1, () -> Scenes.covered(r, 1022, -1024));
        CHECK.due("P6 covers(2047, -1024)", 0, () -> Scenes.covered(r, 2047, -1024));
        CHECK.due("P6 covers(-1024, 2047)", 0, () -> Scenes.covered(r, -1024, 2047));
        CHECK.due("P6 covers(2047, 2047)", 0, () -> Scenes.covered(r, 2047, 2047));
        EdgeRaster slanted = Scenes.triangle(BACK, BACK, FAR, BACK + 1, BACK + 1, FAR);
        CHECK.due("P6 covers far off", 0, () -> Scenes.covered(slanted, 2047, 2047));
        CHECK.due("P6 covers far right", 0, () -> Scenes.covered(slanted, 2047, -1024));
        // The greatest weights there are, above and below 0, come close to what an int can hold.
        CHECK.due("P6 covers beyond the greatest edge", 0,
                () -> Scenes.covered(Scenes.triangle(BACK, FAR, FAR, BACK, BACK, BACK), 2047, 2047));
        CHECK.due("P6 covers beyond it, turned", 0,
                () -> Scenes.covered(Scenes.triangle(FAR, BACK, BACK, FAR, BACK, BACK), 2047, 2047));
    }

    private static void coversEdges() {
        // A square's halves with corners on middles of places: top and left edges are theirs, others are not.
        int[][] corners = {{8, 8, 72, 8, 72, 72}, {8, 8, 72, 72, 8, 72}};
        for (int turned = 0; turned < 2; turned++) {
            for (int turn = 0; turn < 3; turn++) {
                EdgeRaster upper = placed(corners[0], turn, turned == 1);
                EdgeRaster lower = placed(corners[1], turn, turned == 1);
                CHECK.due("P6 top edge", 1, () -> Scenes.covered(upper, 1, 0));
                CHECK.due("P6 corner of top and left", 1, () -> Scenes.covered(upper, 0, 0));
                CHECK.due("P6 left slanted edge", 1, () -> Scenes.covered(upper, 2, 2));
                CHECK.due("P6 corner of top and right", 0, () -> Scenes.covered(upper, 4, 0));
                CHECK.due("P6 right edge", 0, () -> Scenes.covered(upper, 4, 2));
                CHECK.due("P6 right slanted edge", 0, () -> Scenes.covered(lower, 2, 2));
                CHECK.due("P6 left edge", 1, () -> Scenes.covered(lower, 0, 2));
                CHECK.due("P6 bottom edge", 0, () -> Scenes.covered(lower, 2, 4));
                CHECK.due("P6 corner of left and bottom", 0, () -> Scenes.covered(lower, 0, 4));
                CHECK.due("P6 corner of left and slanted", 0, () -> Scenes.covered(lower, 0, 0));
                CHECK.due("P6 inside", 1, () -> Scenes.covered(upper, 3, 1));
                CHECK.due("P6 outside", 0, () -> Scenes.covered(upper, 1, 3));
            }
        }
        CHECK.due("P6 a line covers nothing", 0, () -> Scenes.covered(Scenes.triangle(8, 8, 40, 40, 24, 24), 1, 1));
        CHECK.due("P6 a point covers nothing", 0, () -> Scenes.covered(Scenes.triangle(8, 8, 8, 8, 8, 8), 0, 0));
    }

    private static EdgeRaster placed(int[] xy, int turn, boolean turned) {
        int a = turn % 3;
        int b = (turn + (turned ? 2 : 1)) % 3;
        int c = (turn + (turned ? 1 : 2)) % 3;
        return Scenes.triangle(xy[2 * a], xy[2 * a + 1], xy[2 * b], xy[2 * b + 1], xy[2 * c], xy[2 * c + 1]);
    }

    private static void coversOutsideWindow() {
        EdgeRaster r = Scenes.triangle(-160, -160, 160, -160, -160, 160);
        r.window(500, 500, 1, 1);
        CHECK.due("P6 covers(-5, -5) outside of the window", 1, () -> Scenes.covered(r, -5, -5));
        CHECK.due("P6 covers(0, -1) on the slanted edge", 0, () -> Scenes.covered(r, 0, -1));
        CHECK.due("P6 covers(-1, -1)", 1, () -> Scenes.covered(r, -1, -1));
    }

    /** A fan of triangles round a middle: each place inside is covered by just one. */
    private static void sharedEdges() {
        int[][] round = {{8, 8}, {136, 8}, {264, 8}, {264, 136}, {264, 264}, {136, 264}, {8, 264}, {8, 136}};
        int[][] middles = {{136, 136}, {72, 72}, {129, 43}, {200, 24}};
        for (int[] middle : middles) {
            int[][] covers = new int[17][17];
            for (int k = 0; k < round.length; k++) {
                int[] a = round[k];
                int[] b = round[(k + 1) % round.length];
                EdgeRaster r = k % 2 == 0
                        ? Scenes.triangle(middle[0], middle[1], a[0], a[1], b[0], b[1])
                        : Scenes.triangle(a[0], a[1], middle[0], middle[1], b[0], b[1]);
                r.window(0, 0, 17, 17);
                r.walk();
                for (int place = r.next(); place != EdgeRaster.NONE; place = r.next()) {
                    covers[place / 65536][place % 65536]++;
                }
            }
            for (int y = 0; y < 17; y++) {
                for (int x = 0; x < 17; x++) {
                    int times = covers[y][x];
                    CHECK.due("P6 times (" + x + ", " + y + ") is covered", x < 16 && y < 16 ? 1 : 0, () -> times);
                }
            }
        }
    }

    private static void manyCounts() {
        EdgeRaster r = Scenes.small();
        CHECK.due("P7 many", 6, r::many);
        r.window(1, 0, 2, 2);
        CHECK.due("P7 many in a part", 3, r::many);
        r.window(1, 1, 64, 64);
        CHECK.due("P7 many in a corner", 1, r::many);
        r.window(5, 5, 3, 3);
        CHECK.due("P7 many beside it", 0, r::many);
        CHECK.due("P7 many of the other half", 10, () -> {
            EdgeRaster other = Scenes.triangle(64, 64, 64, 0, 0, 64);
            other.window(0, 0, 8, 8);
            return other.many();
        });
    }

    private static void walkBegins() {
        EdgeRaster r = Scenes.small();
        r.walk();
        CHECK.dueState("P8 weight ahead of the first place", () -> r.weight(0));
        CHECK.dueState("P8 depth ahead of the first place", r::depth);
        CHECK.dueState("P8 at ahead of the first place", () -> r.at(0));
        r.next();
        r.next();
        r.walk();
        CHECK.dueState("P8 weight after a walk begins anew", () -> r.weight(0));
        CHECK.due("P8 next after a walk begins anew", 0, r::next);
        for (int k = 0; k < 9; k++) {
            r.next();
        }
        r.walk();
        CHECK.due("P8 next after a walk has gone through", 0, r::next);
    }

    private static void nextGoesRowByRow() {
        EdgeRaster r = Scenes.small();
        r.walk();
        int[] places = {0, 1, 2, 65536, 65537, 131072, -1, -1, -1};
        for (int place : places) {
            CHECK.due("P9 next", place, r::next);
        }
        r.window(1, 0, 4, 2);
        r.walk();
        int[] inWindow = {1, 2, 65537, -1, -1};
        for (int place : inWindow) {
            CHECK.due("P9 next in a window", place, r::next);
        }
        EdgeRaster far = Scenes.triangle(FAR, FAR, BACK, FAR, FAR, BACK);
        far.window(1021, 1022, 3, 2);
        far.walk();
        int[] last = {65536 * 1022 + 1021, 65536 * 1022 + 1022, 65536 * 1022 + 1023,
            65536 * 1023 + 1021, 65536 * 1023 + 1022, 65536 * 1023 + 1023, -1};
        for (int place : last) {
            CHECK.due("P9 next far off", place, far::next);
        }
        EdgeRaster gap = Scenes.triangle(8, 100, 120, 8, 120, 20);
        gap.window(0, 0, 10, 10);
        gap.walk();
        int count = 0;
        int before = -1;
        for (int place = gap.next(); place != EdgeRaster.NONE && count < 100; place = gap.next()) {
            int now = place;
            CHECK.due("P9 place is covered", 1, () -> Scenes.covered(gap, now % 65536, now / 65536));
            int earlier = before;
            CHECK.due("P9 places rise", 1, () -> now > earlier ? 1 : 0);
            before = place;
            count++;
        }
        CHECK.due("P9 places are many()", count, gap::many);
    }

    private static void weightsOfCorners() {
        EdgeRaster r = Scenes.triangle(8, 8, 72, 8, 8, 136);
        r.window(0, 0, 8, 8);
        r.walk();
        dueWeights("P10 at corner 0", r, 0, 64 * 128, 0, 0);
        dueWeights("P10 beside corner 0", r, 1, 48 * 128, 16 * 128, 0);
        // Turned: the weights stay those of the corners across from the edges.
        EdgeRaster turned = Scenes.triangle(8, 8, 8, 136, 72, 8);
        turned.window(0, 0, 8, 8);
        CHECK.due("P10 turned area", -64 * 128, turned::area);
        turned.walk();
        dueWeights("P10 turned, at corner 0", turned, 0, 64 * 128, 0, 0);
        dueWeights("P10 turned, beside corner 0", turned, 1, 48 * 128, 0, 16 * 128);
        EdgeRaster great = Scenes.triangle(BACK, BACK, FAR, BACK, FAR, FAR);
        great.window(1022, 0, 1, 1);
        great.walk();
        dueWeights("P10 great", great, 1022, 32767L * 23, 32767L * (16360 - 8), 32767L * (8 + 16384));
    }

    private static void dueWeights(String what, EdgeRaster r, int place, long w0, long w1, long w2) {
        CHECK.due(what + " next", place, r::next);
        CHECK.due(what + " weight(0)", w0, () -> r.weight(0));
        CHECK.due(what + " weight(1)", w1, () -> r.weight(1));
        CHECK.due(what + " weight(2)", w2, () -> r.weight(2));
    }

    private static void weightRefusals() {
        EdgeRaster r = Scenes.small();
        int[] wrong = {-1, 3, Integer.MIN_VALUE, Integer.MAX_VALUE};
        for (int j : wrong) {
            CHECK.dueArgument("P10 weight(" + j + ") without walk", () -> r.weight(j));
        }
        CHECK.dueState("P10 weight without walk", () -> r.weight(2));
        r.walk();
        CHECK.dueState("P10 weight, none came yet", () -> r.weight(2));
        r.next();
        for (int j : wrong) {
            CHECK.dueArgument("P10 weight(" + j + ")", () -> r.weight(j));
        }
        CHECK.due("P10 weight", 512, () -> r.weight(2));
        for (int k = 0; k < 6; k++) {
            r.next();
        }
        CHECK.dueState("P10 weight, NONE came", () -> r.weight(2));
        r.next();
        CHECK.dueState("P10 weight, NONE came again", () -> r.weight(2));
        CHECK.dueArgument("P10 weight(3), NONE came", () -> r.weight(3));
    }

    private static void depthGoesDown() {
        EdgeRaster r = new EdgeRaster();
        r.corner(0, 0, 0, 7, 1 << 23);
        r.corner(1, 64, 0, 0, 1);
        r.corner(2, 0, 64, 0, 1);
        r.walk();
        r.next();
        CHECK.due("P11 depth goes down, Q or not", 5, r::depth);
        EdgeRaster turned = new EdgeRaster();
        turned.corner(0, 8, 8, 0, 1);
        turned.corner(1, 8, 136, 1000, 1);
        turned.corner(2, 72, 8, 100, 1);
        turned.window(1, 0, 1, 1);
        turned.walk();
        turned.next();
        CHECK.due("P11 depth turned", 25, turned::depth);
        turned.window(0, 1, 1, 1);
        turned.walk();
        turned.next();
        CHECK.due("P11 depth turned, below", 125, turned::depth);
        EdgeRaster great = new EdgeRaster();
        great.corner(0, BACK, BACK, (1 << 24) - 1, 1);
        great.corner(1, FAR, BACK, (1 << 24) - 1, 1);
        great.corner(2, FAR, FAR, (1 << 24) - 1, 1);
        great.window(1022, 0, 1, 1);
        great.walk();
        great.next();
        CHECK.due("P11 greatest depth", (1 << 24) - 1, great::depth);
    }

    private static void depthRefusals() {
        EdgeRaster r = Scenes.small();
        CHECK.dueState("P11 depth without walk", r::depth);
        r.walk();
        CHECK.dueState("P11 depth, none came yet", r::depth);
        r.next();
        CHECK.due("P11 depth", 0, r::depth);
        for (int k = 0; k < 6; k++) {
            r.next();
        }
        CHECK.dueState("P11 depth, NONE came", r::depth);
    }

    private static EdgeRaster halved(int q0, int q1, int q2, int v0, int v1, int v2) {
        // At (0, 0) the weights are 512, 256, 256.
        EdgeRaster r = new EdgeRaster();
        r.corner(0, 0, 0, 0, q0);
        r.corner(1, 32, 0, 0, q1);
        r.corner(2, 0, 32, 0, q2);
        r.value(0, 27, v0);
        r.value(1, 27, v1);
        r.value(2, 27, v2);
        r.walk();
        r.next();
        return r;
    }

    private static void valuesAsSeen() {
        CHECK.due("P12 at with one Q", 50 + 50 + 100, () -> halved(1, 1, 1, 100, 200, 400).at(27));
        CHECK.due("P12 at with a near corner", (2 * 100 + 2 * 200 + 4 * 400) / 8,
                () -> halved(1, 2, 4, 100, 200, 400).at(27));
        CHECK.due("P12 another value", 0, () -> halved(1, 2, 4, 100, 200, 400).at(26));
        CHECK.due("P12 greatest", Integer.MAX_VALUE, () -> halved(1 << 23, 1 << 23, 1 << 23,
                Integer.MAX_VALUE, Integer.MAX_VALUE, Integer.MAX_VALUE).at(27));
        CHECK.due("P12 least", Integer.MIN_VALUE, () -> halved(1 << 23, 1 << 23, 1 << 23,
                Integer.MIN_VALUE, Integer.MIN_VALUE, Integer.MIN_VALUE).at(27));
    }

    private static void valuesGoDown() {
        CHECK.due("P12 above 0 goes down", 2, () -> halved(1, 1, 1, 5, 0, 1).at(27));
        CHECK.due("P12 below 0 goes down", -3, () -> halved(1, 1, 1, -5, 0, 0).at(27));
        CHECK.due("P12 just below 0 goes down", -1, () -> halved(1, 1, 1, 0, -1, 0).at(27));
        CHECK.due("P12 even below 0", -2, () -> halved(1, 1, 1, -4, 0, 0).at(27));
    }

    private static void valuesWithShift() {
        // 512 * 2^20 is 2^29: the share is shifted by 1, and those of 1 and 2 with it.
        CHECK.due("P12 share of 2^29 is shifted", (int) Math.floorDiv((128L << 23) - 5, (1L << 28) + 256),
                () -> halved(1 << 20, 1, 1, 4, -1, -1).at(27));
        // Weights 256 * 1 shifted by 4 from 512 * 2^23 = 2^32: 2^28, 16, 16.
        long sum = 16L * Integer.MIN_VALUE + 16L * Integer.MIN_VALUE;
        CHECK.due("P12 shifted by 4", Math.floorDiv(sum, (1L << 28) + 32),
                () -> halved(1 << 23, 1, 1, 0, Integer.MIN_VALUE, Integer.MIN_VALUE).at(27));
        // 512 * (2^20 - 1) is below 2^29: nothing is shifted.
        CHECK.due("P12 not shifted", Math.floorDiv(256L * 2000000000, 512L * ((1 << 20) - 1) + 512),
                () -> halved((1 << 20) - 1, 1, 1, 0, 2000000000, 0).at(27));
        // At (0, 1) the weights are 267878625, 0, 262000; the shift by 22 leaves nothing of the last.
        EdgeRaster lost = new EdgeRaster();
        lost.corner(0, 8, 8, 0, 1 << 23);
        lost.corner(1, FAR, 8, 0, 1);
        lost.corner(2, 8, FAR, 0, 1);
        lost.value(0, 0, 10);
        lost.value(2, 0, Integer.MIN_VALUE);
        lost.window(0, 1, 1, 1);
        lost.walk();
        dueWeights("P12 lost share", lost, 65536, 267878625, 0, 262000);
        CHECK.due("P12 lost share", 10, () -> lost.at(0));
    }

    /** Near, far and third corner have weights 64, 1, 0; a share of 1 is lost as soon as there is a shift. */
    private static void shiftBeginsAtLimit() {
        int[][] orders = {{0, 1, 2}, {1, 2, 0}, {2, 0, 1}, {0, 2, 1}, {1, 0, 2}, {2, 1, 0}};
        for (int[] order : orders) {
            CHECK.due("P12 no shift below 2^29, near corner " + order[0], -5, () -> farShare(order, (1 << 23) - 1));
            CHECK.due("P12 shift at 2^29, near corner " + order[0], 0, () -> farShare(order, 1 << 23));
        }
    }

    private static long farShare(int[] order, int q) {
        EdgeRaster r = new EdgeRaster();
        r.corner(order[0], 7, 8, 0, q);
        r.corner(order[1], 72, 8, 0, 1);
        r.corner(order[2], 7, 9, 0, 1);
        r.value(order[1], 0, Integer.MIN_VALUE);
        r.walk();
        r.next();
        return r.at(0);
    }

    private static void valueRefusals() {
        EdgeRaster r = Scenes.small();
        int[] wrong = {-1, 28, Integer.MIN_VALUE, Integer.MAX_VALUE};
        for (int n : wrong) {
            CHECK.dueArgument("P12 at(" + n + ") without walk", () -> r.at(n));
        }
        CHECK.dueState("P12 at without walk", () -> r.at(27));
        r.walk();
        CHECK.dueState("P12 at, none came yet", () -> r.at(27));
        r.next();
        for (int n : wrong) {
            CHECK.dueArgument("P12 at(" + n + ")", () -> r.at(n));
        }
        CHECK.due("P12 at", 0, () -> r.at(27));
        for (int k = 0; k < 6; k++) {
            r.next();
        }
        CHECK.dueState("P12 at, NONE came", () -> r.at(27));
        CHECK.dueArgument("P12 at(28), NONE came", () -> r.at(28));
    }

    private static void questionsKeepTheWalk() {
        EdgeRaster r = Scenes.small();
        r.walk();
        r.next();
        r.area();
        r.many();
        r.covers(7, 7);
        CHECK.due("weight after questions", 3072, () -> r.weight(0));
        CHECK.due("next after questions", 1, r::next);
    }

    private static void throwingCallsChangeNothing() {
        EdgeRaster r = Scenes.small();
        r.value(1, 3, 800);
        r.walk();
        r.next();
        CHECK.dueArgument("corner(0, .., q 0)", () -> r.corner(0, 50, 50, 99, 0));
        CHECK.dueArgument("corner(3, ..)", () -> r.corner(3, 50, 50, 99, 1));
        CHECK.dueArgument("corner(0, .., y 16384)", () -> r.corner(0, 50, 16384, 99, 1));
        CHECK.dueArgument("value(3, 3, 1)", () -> r.value(3, 3, 1));
        CHECK.dueArgument("value(1, 28, 1)", () -> r.value(1, 28, 1));
        CHECK.dueArgument("window(5, 5, 5, 65)", () -> r.window(5, 5, 5, 65));
        CHECK.dueArgument("covers(0, 2048)", () -> Scenes.covered(r, 0, 2048));
        CHECK.dueArgument("weight(3)", () -> r.weight(3));
        CHECK.dueArgument("at(28)", () -> r.at(28));
        CHECK.due("area after throws", 4096, r::area);
        CHECK.due("weight after throws", 3072, () -> r.weight(0));
        CHECK.due("depth after throws", 0, r::depth);
        CHECK.due("at after throws", 100, () -> r.at(3));
        CHECK.due("many after throws", 6, r::many);
        CHECK.due("next after throws", 1, r::next);
        CHECK.due("at of the next", 300, () -> r.at(3));
        EdgeRaster fresh = new EdgeRaster();
        CHECK.dueState("next", fresh::next);
        CHECK.dueState("next again", fresh::next);
    }
}
