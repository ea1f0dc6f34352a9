import java.util.Random;
import java.util.function.LongSupplier;

/** Long runs of mixed calls, each answer compared with the plain model's. The seed is fixed. */
public final class ModelTest {
    private static final int RUNS = 400;
    private static final int CALLS = 512;
    private static final int[] ODD = {Integer.MIN_VALUE, Integer.MAX_VALUE, -1, 0, 1, 3, 28, 64, 65, 1023, 1024,
        -1024, -1025, 2047, 2048, -16384, -16385, 16383, 16384, 1 << 24, (1 << 24) - 1, 1 << 23, (1 << 23) + 1};

    private final Check check = new Check();
    private final Random random = new Random(20261115);
    private EdgeRaster real;
    private PlainModel plain;
    private int scale;
    private int atX;
    private int atY;

    public static void main(String[] args) {
        ModelTest test = new ModelTest();
        for (int run = 0; run < RUNS; run++) {
            test.begin(run);
            for (int call = 0; call < CALLS; call++) {
                test.oneCall(run);
            }
        }
        test.check.end();
    }

    private void begin(int run) {
        real = new EdgeRaster();
        plain = new PlainModel();
        scale = new int[] {40, 200, 1200, 16384}[run % 4];
        atX = run % 3 == 0 ? 0 : random.nextInt(1024);
        atY = run % 5 == 0 ? 0 : random.nextInt(1024);
    }

    private void oneCall(int run) {
        int kind = random.nextInt(100);
        if (kind < 9) {
            corner(run);
        } else if (kind < 17) {
            value(run);
        } else if (kind < 20) {
            window(run);
        } else if (kind < 23) {
            compare(run, "area()", real::area, plain::area);
        } else if (kind < 33) {
            covers(run);
        } else if (kind < 35) {
            compare(run, "many()", real::many, plain::many);
        } else if (kind < 43) {
            compare(run, "walk()", Check.asSupplier(real::walk), Check.asSupplier(plain::walk));
        } else if (kind < 63) {
            compare(run, "next()", real::next, plain::next);
        } else if (kind < 75) {
            int j = pick(random.nextInt(3));
            compare(run, "weight(" + j + ")", () -> real.weight(j), () -> plain.weight(j));
        } else if (kind < 85) {
            compare(run, "depth()", real::depth, plain::depth);
        } else {
            int n = pick(random.nextInt(4));
            compare(run, "at(" + n + ")", () -> real.at(n), () -> plain.at(n));
        }
    }

    private void corner(int run) {
        int j = pick(random.nextInt(3));
        int x = pick(sixteenth(atX));
        int y = pick(sixteenth(atY));
        int depth = pick(random.nextInt(1 << 24));
        int q = pick(random.nextBoolean() ? 1 + random.nextInt(1 << 23) : 1 << random.nextInt(24));
        compare(run, "corner(" + j + ", " + x + ", " + y + ", " + depth + ", " + q + ")",
                Check.asSupplier(() -> real.corner(j, x, y, depth, q)),
                Check.asSupplier(() -> plain.corner(j, x, y, depth, q)));
    }

    private void value(int run) {
        int j = pick(random.nextInt(3));
        int n = pick(random.nextInt(4));
        int v = random.nextBoolean() ? random.nextInt() : pick(random.nextInt(2000) - 1000);
        compare(run, "value(" + j + ", " + n + ", " + v + ")",
                Check.asSupplier(() -> real.value(j, n, v)), Check.asSupplier(() -> plain.value(j, n, v)));
    }

    private void window(int run) {
        int x = pick(Math.max(0, atX - random.nextInt(3)));
        int y = pick(Math.max(0, atY - random.nextInt(3)));
        int wide = pick(1 + random.nextInt(random.nextInt(10) == 0 ? 64 : 12));
        int high = pick(1 + random.nextInt(random.nextInt(10) == 0 ? 64 : 12));
        compare(run, "window(" + x + ", " + y + ", " + wide + ", " + high + ")",
                Check.asSupplier(() -> real.window(x, y, wide, high)),
                Check.asSupplier(() -> plain.window(x, y, wide, high)));
    }

    private void covers(int run) {
        int x = pick(atX + random.nextInt(9) - 3);
        int y = pick(atY + random.nextInt(9) - 3);
        compare(run, "covers(" + x + ", " + y + ")",
                () -> real.covers(x, y) ? 1 : 0, () -> plain.covers(x, y) ? 1 : 0);
    }

    /** Often on a middle of a place, so that weights of 0 come up. */
    private int sixteenth(int place) {
        int near = 16 * place + random.nextInt(2 * scale) - scale / 2;
        int kept = Math.max(-16384, Math.min(16383, near));
        return random.nextBoolean() ? kept & -16 | 8 : kept;
    }

    private int pick(int right) {
        return random.nextInt(60) == 0 ? ODD[random.nextInt(ODD.length)] : right;
    }

    private void compare(int run, String call, LongSupplier got, LongSupplier want) {
        check.compare("run " + run + ": " + call, Check.answer(want), Check.answer(got));
    }
}
