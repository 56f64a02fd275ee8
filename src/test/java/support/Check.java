import java.util.function.LongSupplier;

/** Compares answers with those that are due, and ends the program with exit code 1 if one was wrong. */
final class Check {
    private static int wrong = 0;
    private static int asked = 0;

    private Check() {
    }

    static void due(String call, LongSupplier answer, long want) {
        String got = told(answer);
        compare(call, got, Long.toString(want));
    }

    static void yes(String call, boolean got) {
        compare(call, Boolean.toString(got), "true");
    }

    static void no(String call, boolean got) {
        compare(call, Boolean.toString(got), "false");
    }

    static void exact(String call, double got, double want) {
        compare(call, Double.toString(got), Double.toString(want));
    }

    static void noSuch(String call, LongSupplier answer) {
        compare(call, told(answer), "IndexOutOfBoundsException");
    }

    static void badArgument(String call, LongSupplier answer) {
        compare(call, told(answer), "IllegalArgumentException");
    }

    static void badState(String call, LongSupplier answer) {
        compare(call, told(answer), "IllegalStateException");
    }

    /** The answer, or the plain name of the exception that came in its place. */
    static String told(LongSupplier answer) {
        try {
            return Long.toString(answer.getAsLong());
        } catch (RuntimeException e) {
            return e.getClass().getSimpleName();
        }
    }

    static void compare(String call, String got, String want) {
        asked++;
        if (!got.equals(want)) {
            wrong++;
            if (wrong <= 50) {
                System.out.println(call + " answered " + got + ", due is " + want);
            }
        }
    }

    static long bit(boolean is) {
        return is ? 1 : 0;
    }

    static void end() {
        System.out.println(asked + " answers, " + wrong + " wrong");
        if (wrong != 0 || asked == 0) {
            System.exit(1);
        }
    }
}
