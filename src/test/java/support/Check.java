import java.util.function.LongSupplier;

/** Compares answers with those that are due, and ends the program with exit code 1 if one was wrong. */
final class Check {
    private static final int MOST_TOLD = 50;

    private static int wrong = 0;
    private static int asked = 0;

    private Check() {
    }

    /** The answer, or the plain name of the exception that came in its place. */
    static String told(LongSupplier answer) {
        try {
            return Long.toString(answer.getAsLong());
        } catch (RuntimeException e) {
            return e.getClass().getSimpleName();
        }
    }

    static long bit(boolean is) {
        return is ? 1 : 0;
    }

    static void compare(String call, String got, String want) {
        asked++;
        if (!got.equals(want)) {
            wrong++;
            if (wrong <= MOST_TOLD) {
                System.out.println(call + " answered " + got + ", due is " + want);
            }
        }
    }

    static void end() {
        System.out.println(asked + " answers, " + wrong + " wrong");
        if (wrong != 0 || asked == 0) {
            System.exit(1);
        }
    }
}
