import java.util.ArrayList;
import java.util.List;
import java.util.Random;
import java.util.function.LongSupplier;

/** What stands around the promises of DOC.md: "What it is" and "Not promised", and the example of README.md. */
public final class WholeTest {
    private static final Check CHECK = new Check();
    private static final Random RANDOM = new Random(20261116);
    private static final int[][] ORDERS = Scenes.ORDERS;

    /** A mesh has CELLS by CELLS cells of SIDE places, each of two triangles. */
    private static final int CELLS = 4;
    private static final int SIDE = 3;
    private static final int MESH = CELLS * SIDE;

    public static void main(String[] args) {
        eachPlaceOfAMeshIsOfJustOne();
        eachPlaceOfTwoTrianglesIsOfJustOne();
        bothBringTheSameToTheirEdge();
        depthLiesOnTheTriangle();
        valuesLieOnItAsItIsSeen();
        questionsNeverDiffer();
        objectsAreApart();
        sameCallsSameAnswers();
        allOf512CallsAreAnswered();
        exampleOfTheReadme();
        CHECK.end();
    }

    /** "Which places of a screen a triangle covers, each place of two triangles that share an edge by just one". */
    private static void eachPlaceOfAMeshIsOfJustOne() {
        int[][] starts = {{0, 0}, {1, 1}, {500, 3}, {1023 - MESH, 1023 - MESH}};
        for (int[] start : starts) {
            for (int round = 0; round < 8; round++) {
                dueOnce(start, mesh(start, round));
            }
        }
    }

    /** The outer points lie on middles of places, the inner ones up to half a place away from theirs. */
    private static List<EdgeRaster> mesh(int[] start, int round) {
        int[][][] points = new int[CELLS + 1][CELLS + 1][];
        for (int row = 0; row <= CELLS; row++) {
            for (int column = 0; column <= CELLS; column++) {
                boolean outer = row % CELLS == 0 || column % CELLS == 0;
                points[row][column] = new int[] {
                    16 * (start[0] + SIDE * column) + 8 + (outer ? 0 : shift(round)),
                    16 * (start[1] + SIDE * row) + 8 + (outer ? 0 : shift(round)),
                };
            }
        }
        List<EdgeRaster> triangles = new ArrayList<>();
        for (int row = 0; row < CELLS; row++) {
            for (int column = 0; column < CELLS; column++) {
                int[] a = points[row][column];
                int[] b = points[row][column + 1];
                int[] c = points[row + 1][column + 1];
                int[] d = points[row + 1][column];
                boolean falling = RANDOM.nextBoolean();
                triangles.add(anyOrder(a, b, falling ? c : d));
                triangles.add(anyOrder(falling ? a : b, c, d));
            }
        }
        return triangles;
    }

    /** In the first round no point is shifted, so that all edges but the slanted ones go through middles. */
    private static int shift(int round) {
        return round == 0 ? 0 : RANDOM.nextInt(17) - 8;
    }

    private static EdgeRaster anyOrder(int[] a, int[] b, int[] c) {
        return Scenes.ordered(ORDERS[RANDOM.nextInt(ORDERS.length)], a[0], a[1], b[0], b[1], c[0], c[1]);
    }

    /** By covers(), by many() and by a walk. */
    private static void dueOnce(int[] start, List<EdgeRaster> triangles) {
        int[][] walked = new int[MESH + 1][MESH + 1];
        int many = 0;
        for (EdgeRaster r : triangles) {
            r.window(start[0], start[1], MESH + 1, MESH + 1);
            many += r.many();
            r.walk();
            for (int place = r.next(); place != EdgeRaster.NONE; place = r.next()) {
                walked[place / 65536 - start[1]][place % 65536 - start[0]]++;
            }
        }
        int sum = many;
        CHECK.due("many of all triangles of a mesh", MESH * MESH, () -> sum);
        for (int row = 0; row <= MESH; row++) {
            for (int column = 0; column <= MESH; column++) {
                int x = start[0] + column;
                int y = start[1] + row;
                // The right and the lower side of the mesh are neither top nor left edges.
                int due = row < MESH && column < MESH ? 1 : 0;
                int times = walked[row][column];
                CHECK.due("walks that go over (" + x + ", " + y + ")", due, () -> times);
                CHECK.due("triangles that cover (" + x + ", " + y + ")", due, () -> howMany(triangles, x, y));
            }
        }
    }

    private static long howMany(List<EdgeRaster> triangles, int x, int y) {
        return triangles.stream().filter(r -> r.covers(x, y)).count();
    }

    /** The same sentence for pairs of triangles anywhere, places before (0, 0) too. */
    private static void eachPlaceOfTwoTrianglesIsOfJustOne() {
        int onEdge = 0;
        for (int pair = 0; pair < 6000; pair++) {
            int[] at = {RANDOM.nextInt(2000) - 1000, RANDOM.nextInt(2000) - 1000};
            int[] a = point(at);
            int[] b = point(at);
            int[] c = point(at);
            int[] d = point(at);
            if (Long.signum(side(a, b, c)) * Long.signum(side(a, b, d)) >= 0) {
                continue;
            }
            EdgeRaster one = anyOrder(a, b, c);
            EdgeRaster other = anyOrder(a, b, d);
            for (int place = 0; place < 100; place++) {
                int x = at[0] + place % 10 - 1;
                int y = at[1] + place / 10 - 1;
                int[] middle = {16 * x + 8, 16 * y + 8};
                long times = Scenes.covered(one, x, y) + Scenes.covered(other, x, y);
                CHECK.due("not both cover (" + x + ", " + y + ")", 1, () -> times <= 1 ? 1 : 0);
                if (between(a, b, middle)) {
                    onEdge++;
                    CHECK.due("one covers (" + x + ", " + y + ")", 1, () -> times);
                }
            }
        }
        int met = onEdge;
        CHECK.due("there are places on shared edges", 1, () -> met > 500 ? 1 : 0);
    }

    /** Mostly a middle of one of 8 by 8 places. */
    private static int[] point(int[] at) {
        boolean middle = RANDOM.nextInt(4) != 0;
        int x = middle ? 16 * RANDOM.nextInt(8) + 8 : RANDOM.nextInt(128);
        int y = middle ? 16 * RANDOM.nextInt(8) + 8 : RANDOM.nextInt(128);
        return new int[] {16 * at[0] + x, 16 * at[1] + y};
    }

    private static long side(int[] a, int[] b, int[] c) {
        return (long) (b[0] - a[0]) * (c[1] - a[1]) - (long) (b[1] - a[1]) * (c[0] - a[0]);
    }

    private static boolean between(int[] a, int[] b, int[] middle) {
        long along = (long) (b[0] - a[0]) * (middle[0] - a[0]) + (long) (b[1] - a[1]) * (middle[1] - a[1]);
        long whole = (long) (b[0] - a[0]) * (b[0] - a[0]) + (long) (b[1] - a[1]) * (b[1] - a[1]);
        return side(a, b, middle) == 0 && along > 0 && along < whole;
    }

    /** What a place on an edge gets does not hang on the third corner, so no seam is seen there. */
    private static void bothBringTheSameToTheirEdge() {
        int[][] thirds = {{8, 136}, {136, 8}, {-50, 90}, {200, -30}};
        for (int[] order : ORDERS) {
            for (int[] third : thirds) {
                EdgeRaster r = new EdgeRaster();
                r.corner(order[0], 8, 8, 1000, 1);
                r.corner(order[1], 136, 136, 5001, 3);
                r.corner(order[2], third[0], third[1], RANDOM.nextInt(1 << 24), 1 + RANDOM.nextInt(9));
                r.value(order[0], 7, -700);
                r.value(order[1], 7, 901);
                r.value(order[2], 7, RANDOM.nextInt());
                for (int k = 1; k < 8; k++) {
                    if (r.covers(k, k)) {
                        r.window(k, k, 1, 1);
                        Scenes.onFirst(r);
                        CHECK.due("weight of the third", 0, () -> r.weight(order[2]));
                        CHECK.due("depth on the edge", Math.floorDiv((8 - k) * 1000 + k * 5001, 8), r::depth);
                        CHECK.due("value on the edge", Math.floorDiv((8 - k) * -700 + 3 * k * 901, 8 - k + 3 * k),
                                () -> r.at(7));
                    }
                }
            }
        }
    }

    /** "what it brings to a place: a depth": one that rises evenly over the screen, whatever the Q. */
    private static void depthLiesOnTheTriangle() {
        for (int[] order : ORDERS) {
            EdgeRaster r = new EdgeRaster();
            r.corner(order[0], 8, 8, 100, 1 + RANDOM.nextInt(1 << 23));
            r.corner(order[1], 168, 8, 100 + 7 * 10, 1 + RANDOM.nextInt(1 << 23));
            r.corner(order[2], 8, 168, 100 + 1000 * 10, 1 + RANDOM.nextInt(1 << 23));
            r.window(0, 0, 12, 12);
            r.walk();
            for (int k = 0; k < 55; k++) {
                int place = r.next();
                CHECK.due("depth at " + place, 100 + 7 * (place % 65536) + 1000 * (place / 65536), r::depth);
            }
            CHECK.due("that was the last", EdgeRaster.NONE, r::next);
        }
    }

    /**
     * "values that lie on it as it is seen": seen from (0, 0, 0), a point (X, Y, Z) is at X / Z, Y / Z, and its Q is
     * as 1 / Z. The values are X, Y and Z themselves, so that at a place they stand to one another as they must.
     */
    private static void valuesLieOnItAsItIsSeen() {
        int near = 1000000;
        int[][] seen = {{8, 8, 1}, {648, 40, 4}, {72, 712, 10}};
        for (int[] order : ORDERS) {
            EdgeRaster r = new EdgeRaster();
            for (int k = 0; k < 3; k++) {
                int far = seen[k][2];
                r.corner(order[k], seen[k][0], seen[k][1], 0, near / far);
                r.value(order[k], 0, seen[k][0] * far * 10000);
                r.value(order[k], 1, seen[k][1] * far * 10000);
                r.value(order[k], 2, far * 10000);
            }
            r.window(0, 0, 40, 40);
            r.walk();
            for (int k = 0; k < 150; k++) {
                int place = r.next();
                long z = r.at(2);
                dueNear("x seen at " + place, 16 * (place % 65536) + 8, r.at(0), z);
                dueNear("y seen at " + place, 16 * (place / 65536) + 8, r.at(1), z);
            }
        }
    }

    /** Q and values are rounded, so a tenth of a sixteenth is left free. */
    private static void dueNear(String what, int due, long value, long z) {
        long off = Math.abs(value - due * z);
        CHECK.compare(what + ", " + value + " / " + z + " is about " + due, "true", Boolean.toString(10 * off <= z));
    }

    /** "Nothing is promised beyond the answers and state changes described above": a question changes no answer. */
    private static void questionsNeverDiffer() {
        EdgeRaster r = twinRun(77, 100);
        r.walk();
        r.next();
        List<String> first = questions(r);
        for (int k = 0; k < 9; k++) {
            CHECK.compare("questions asked again", first.toString(), questions(r).toString());
        }
    }

    private static List<String> questions(EdgeRaster r) {
        List<String> answers = new ArrayList<>();
        LongSupplier[] calls = {
            () -> r.at(0), r::depth, () -> r.weight(2), r::many, () -> Scenes.covered(r, 3, 3), r::area,
            () -> r.weight(1), () -> r.at(27), () -> r.weight(0),
        };
        for (LongSupplier call : calls) {
            answers.add(Check.answer(call));
        }
        return answers;
    }

    private static EdgeRaster twinRun(int seed, int calls) {
        EdgeRaster r = new EdgeRaster();
        Random random = new Random(seed);
        for (int k = 0; k < calls; k++) {
            anyCall(r, random);
        }
        return r;
    }

    /** A call that is refused is a call too. */
    private static String anyCall(EdgeRaster r, Random random) {
        int kind = random.nextInt(12);
        int j = random.nextInt(kind == 0 ? 4 : 3);
        int x = random.nextInt(200) - 30;
        int y = random.nextInt(200) - 30;
        int n = random.nextInt(28);
        LongSupplier[] calls = {
            Check.asSupplier(() -> r.corner(j, x, y, random.nextInt(1 << 24), 1 + random.nextInt(1 << 23))),
            Check.asSupplier(() -> r.value(j, n, random.nextInt())),
            Check.asSupplier(() -> r.window(random.nextInt(4), random.nextInt(4), x & 31, y & 31)),
            r::area, () -> Scenes.covered(r, x / 16, y / 16), r::many, Check.asSupplier(r::walk), r::next, r::next,
            () -> r.weight(j), r::depth, () -> r.at(n),
        };
        return Check.answer(calls[kind]);
    }

    /** What one object is told changes no other: six of them take turns, and each answers as if it were alone. */
    private static void objectsAreApart() {
        List<List<String>> alone = new ArrayList<>();
        for (int k = 0; k < 6; k++) {
            alone.add(answersOf(k));
        }
        EdgeRaster[] all = new EdgeRaster[6];
        Random[] randoms = new Random[6];
        for (int k = 0; k < 6; k++) {
            all[k] = new EdgeRaster();
            randoms[k] = new Random(k);
        }
        for (int call = 0; call < 512; call++) {
            for (int k = 0; k < 6; k++) {
                CHECK.compare("call " + call + " of object " + k + " among others", alone.get(k).get(call),
                        anyCall(all[k], randoms[k]));
            }
        }
    }

    private static List<String> answersOf(int seed) {
        EdgeRaster r = new EdgeRaster();
        Random random = new Random(seed);
        List<String> answers = new ArrayList<>();
        for (int call = 0; call < 512; call++) {
            answers.add(anyCall(r, random));
        }
        return answers;
    }

    private static void sameCallsSameAnswers() {
        for (int seed = 0; seed < 20; seed++) {
            CHECK.compare("run " + seed + " once more", answersOf(seed).toString(), answersOf(seed).toString());
        }
    }

    /** "An object is used for at most 512 calls after it has been made": each call may be all of them. */
    private static void allOf512CallsAreAnswered() {
        EdgeRaster r = Scenes.small();
        for (int call = 4; call < 512; call++) {
            r.value(0, call % 28, call);
        }
        CHECK.due("area as the last call", 4096, r::area);
        EdgeRaster walks = Scenes.small();
        for (int call = 4; call < 511; call++) {
            walks.walk();
        }
        CHECK.due("next as the last call", 0, walks::next);
        EdgeRaster counts = Scenes.triangle(Scenes.BACK, Scenes.BACK, Scenes.FAR, Scenes.BACK, Scenes.FAR, Scenes.FAR);
        counts.window(500, 0, 64, 64);
        for (int call = 4; call < 512; call++) {
            CHECK.due("many as call " + call, 4096, counts::many);
        }
        EdgeRaster corners = new EdgeRaster();
        for (int call = 0; call < 511; call++) {
            corners.corner(call % 3, 16 * (call % 3), call, call, 1 + call);
        }
        // The last three are corner 1 at (16, 508), corner 2 at (32, 509), corner 0 at (0, 510).
        CHECK.due("area after corners alone", 16 * -1 - 32 * -2, corners::area);
    }

    /** The example of README.md, and what it says about turned corners. */
    private static void exampleOfTheReadme() {
        int[][] due = {
            {0, 0, 24, 8192}, {1, 0, 40, 24576}, {2, 0, 56, 40960}, {0, 1, 56, 8192}, {1, 1, 72, 24576}, {0, 2, 88, 8192},
        };
        for (int turned = 0; turned < 2; turned++) {
            EdgeRaster r = new EdgeRaster();
            r.corner(0, 0, 0, 0, 1);
            r.corner(1 + turned, 64, 0, 64, 1);
            r.corner(2 - turned, 0, 64, 128, 1);
            r.value(1 + turned, 0, 65536);
            r.window(0, 0, 8, 8);
            r.walk();
            int count = 0;
            for (int place = r.next(); place != EdgeRaster.NONE; place = r.next()) {
                int[] d = due[count % due.length];
                CHECK.due("README place", 65536L * d[1] + d[0], asked(place));
                CHECK.due("README depth", d[2], r::depth);
                CHECK.due("README value", d[3], () -> r.at(0));
                count++;
            }
            CHECK.due("README places", due.length, asked(count));
        }
    }

    private static LongSupplier asked(long number) {
        return () -> number;
    }
}
