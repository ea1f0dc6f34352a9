import java.util.function.LongSupplier;

/** Compares answers with the ones that are due, and counts those that are not. */
final class Check {
    private int wrong = 0;

    void due(String call, long want, LongSupplier got) {
        compare(call, Long.toString(want), answer(got));
    }

    void dueArgument(String call, Runnable got) {
        compare(call, "IllegalArgumentException", answer(asSupplier(got)));
    }

    void dueArgument(String call, LongSupplier got) {
        compare(call, "IllegalArgumentException", answer(got));
    }

    void dueState(String call, LongSupplier got) {
        compare(call, "IllegalStateException", answer(got));
    }

    void compare(String call, String want, String got) {
        if (!want.equals(got)) {
            wrong++;
            System.out.println(call + " answered " + got + ", due is " + want);
        }
    }

    static String answer(LongSupplier call) {
        try {
            return Long.toString(call.getAsLong());
        } catch (RuntimeException e) {
            return e.getClass().getSimpleName();
        }
    }

    static LongSupplier asSupplier(Runnable call) {
        return () -> {
            call.run();
            return 0;
        };
    }

    void end() {
        System.out.println(wrong == 0 ? "all answers are as due" : wrong + " answers are not as due");
        if (wrong != 0) {
            System.exit(1);
        }
    }
}
