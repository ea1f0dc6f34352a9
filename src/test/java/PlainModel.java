import java.math.BigInteger;

/** The document's terms once more, word by word and in numbers without bounds, to compare with. */
final class PlainModel {
    private final int[] xs = new int[3];
    private final int[] ys = new int[3];
    private final int[] depths = new int[3];
    private final int[] qs = {1, 1, 1};
    private final int[][] values = new int[3][28];
    private int x0 = 0;
    private int y0 = 0;
    private int wide = 1;
    private int high = 1;
    private boolean walking = false;
    private int index = -1;

    void corner(int j, int x, int y, int depth, int q) {
        argument(j >= 0 && j < 3 && x >= -16384 && x < 16384 && y >= -16384 && y < 16384
                && depth >= 0 && depth < 1 << 24 && q >= 1 && q <= 1 << 23);
        xs[j] = x;
        ys[j] = y;
        depths[j] = depth;
        qs[j] = q;
        walking = false;
    }

    void value(int j, int n, int v) {
        argument(j >= 0 && j < 3 && n >= 0 && n < 28);
        values[j][n] = v;
        walking = false;
    }

    void window(int x, int y, int w, int h) {
        argument(x >= 0 && x < 1024 && y >= 0 && y < 1024 && w >= 1 && w <= 64 && h >= 1 && h <= 64);
        x0 = x;
        y0 = y;
        wide = w;
        high = h;
        walking = false;
    }

    long area() {
        return big(xs[1] - xs[0]).multiply(big(ys[2] - ys[0]))
                .subtract(big(xs[2] - xs[0]).multiply(big(ys[1] - ys[0]))).longValueExact();
    }

    boolean covers(int x, int y) {
        argument(x >= -1024 && x <= 2047 && y >= -1024 && y <= 2047);
        return covered(x, y);
    }

    int many() {
        int count = 0;
        for (int k = 0; k < wide * high; k++) {
            count += covered(x0 + k % wide, y0 + k / wide) ? 1 : 0;
        }
        return count;
    }

    void walk() {
        walking = true;
        index = -1;
    }

    int next() {
        state(walking);
        while (index < wide * high) {
            index++;
            if (index < wide * high && covered(placeX(), placeY())) {
                return 65536 * placeY() + placeX();
            }
        }
        return -1;
    }

    long weight(int j) {
        argument(j >= 0 && j < 3);
        state(onPlace());
        return weightAt(j, placeX(), placeY()).longValueExact();
    }

    int depth() {
        state(onPlace());
        BigInteger sum = BigInteger.ZERO;
        for (int j = 0; j < 3; j++) {
            sum = sum.add(weightAt(j, placeX(), placeY()).multiply(big(depths[j])));
        }
        return down(sum, big(Math.abs(area())));
    }

    int at(int n) {
        argument(n >= 0 && n < 28);
        state(onPlace());
        BigInteger limit = BigInteger.TWO.pow(29);
        BigInteger power = BigInteger.ONE;
        while (share(0, power).compareTo(limit) >= 0 || share(1, power).compareTo(limit) >= 0
                || share(2, power).compareTo(limit) >= 0) {
            power = power.multiply(BigInteger.TWO);
        }
        BigInteger sum = BigInteger.ZERO;
        BigInteger shares = BigInteger.ZERO;
        for (int j = 0; j < 3; j++) {
            sum = sum.add(share(j, power).multiply(big(values[j][n])));
            shares = shares.add(share(j, power));
        }
        return down(sum, shares);
    }

    private BigInteger share(int j, BigInteger power) {
        return weightAt(j, placeX(), placeY()).multiply(big(qs[j])).divide(power);
    }

    private boolean onPlace() {
        return walking && index >= 0 && index < wide * high;
    }

    private int placeX() {
        return x0 + index % wide;
    }

    private int placeY() {
        return y0 + index / wide;
    }

    /** 1 for 2 and 2 for 1 if the corners are turned. */
    private int taken(int j) {
        return area() < 0 && j != 0 ? 3 - j : j;
    }

    private int from(int j) {
        return taken((taken(j) + 1) % 3);
    }

    private int to(int j) {
        return taken((taken(j) + 2) % 3);
    }

    private BigInteger weightAt(int j, int x, int y) {
        int a = from(j);
        int b = to(j);
        return big(xs[b] - xs[a]).multiply(big(16L * y + 8 - ys[a]))
                .subtract(big(ys[b] - ys[a]).multiply(big(16L * x + 8 - xs[a])));
    }

    private boolean covered(int x, int y) {
        if (area() == 0) {
            return false;
        }
        BigInteger sum = BigInteger.ZERO;
        boolean all = true;
        for (int j = 0; j < 3; j++) {
            int a = from(j);
            int b = to(j);
            boolean top = ys[b] == ys[a] && xs[b] > xs[a];
            boolean left = ys[b] < ys[a];
            int sign = weightAt(j, x, y).signum();
            all &= sign > 0 || sign == 0 && (top || left);
            sum = sum.add(weightAt(j, x, y));
        }
        if (!sum.equals(big(Math.abs(area())))) {
            throw new AssertionError("the weights do not make up the area");
        }
        return all;
    }

    private static BigInteger big(long number) {
        return BigInteger.valueOf(number);
    }

    private static int down(BigInteger sum, BigInteger divisor) {
        BigInteger[] parts = sum.divideAndRemainder(divisor);
        return (parts[1].signum() < 0 ? parts[0].subtract(BigInteger.ONE) : parts[0]).intValueExact();
    }

    private static void argument(boolean right) {
        if (!right) {
            throw new IllegalArgumentException();
        }
    }

    private static void state(boolean right) {
        if (!right) {
            throw new IllegalStateException();
        }
    }
}
