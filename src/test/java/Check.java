import java.util.function.IntConsumer;
import java.util.function.LongSupplier;

/** Compares answers with the ones that are due, and counts those that are not. */
final class Check {
    private int wrong = 0;

    void due(String call, long want, LongSupplier got) {
        compare(call, Long.toString(want), answer(got));
    }

    void dueDone(String call, Runnable got) {
        compare(call, "0", answer(asSupplier(got)));
    }

    void dueArgument(String call, Runnable got) {
        compare(call, "IllegalArgumentException", answer(asSupplier(got)));
    }

    void dueArgument(String call, LongSupplier got) {
        compare(call, "IllegalArgumentException", answer(got));
    }

    void dueState(String call, LongSupplier got) {
        compare(call, "IllegalStateException", answer(got));
    }

    /** The least and the greatest number are taken; the first ones beyond, and the ends of the ints, are refused. */
    void dueRange(String what, int least, int most, IntConsumer call) {
        dueDone(what + " " + least, () -> call.accept(least));
        dueDone(what + " " + most, () -> call.accept(most));
        int[] beyond = {least - 1, most + 1, Integer.MIN_VALUE, Integer.MAX_VALUE};
        for (int number : beyond) {
            dueArgument(what + " " + number, () -> call.accept(number));
        }
    }

    void compare(String call, String want, String got) {
        if (!want.equals(got)) {
            wrong++;
            System.out.println(call + " answered " + got + ", due is " + want);
        }
    }

    static String answer(LongSupplier call) {
        try {
            return Long.toString(call.getAsLong());
        } catch (RuntimeException e) {
            return e.getClass().getSimpleName();
        }
    }

    static LongSupplier asSupplier(Runnable call) {
        return () -> {
            call.run();
            return 0;
        };
    }

    void end() {
        System.out.println(wrong == 0 ? "all answers are as due" : wrong + " answers are not as due");
        if (wrong != 0) {
            System.exit(1);
        }
    }
}
