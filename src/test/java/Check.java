import java.util.Objects;

/** Compares answers with those that are due, and ends a test. */
final class Check {
    private static int wrong = 0;

    interface Call {
        Object run();
    }

    private Check() {
    }

    static void due(String call, Object got, Object want) {
        if (!Objects.equals(got, want)) {
            wrong++;
            System.out.println(call + " answered " + got + ", due is " + want);
        }
    }

    /** What a call answers, or the plain name of what it throws. */
    static Object of(Call call) {
        try {
            return call.run();
        } catch (RuntimeException e) {
            return e.getClass().getSimpleName();
        }
    }

    static void end() {
        if (wrong != 0) {
            System.out.println(wrong + " answers are not as due");
            System.exit(1);
        }
    }
}
