import java.lang.reflect.InvocationTargetException;
import java.lang.reflect.Method;
import java.lang.reflect.Modifier;
import java.util.Objects;

/** Runs the tests of a class, compares answers with those that are due, and ends. */
final class Check {
    private static int wrong = 0;
    private static String sentence = "";

    interface Call {
        Object run();
    }

    private Check() {
    }

    /** Runs every test method of a class: what one throws is its own fault alone, and the others go on. */
    static void all(Class<?> tests) throws IllegalAccessException {
        for (Method method : tests.getDeclaredMethods()) {
            boolean isTest = Modifier.isStatic(method.getModifiers()) && method.getParameterCount() == 0
                    && method.getReturnType() == void.class && !method.isSynthetic();
            if (isTest) {
                sentence = method.getName() + ": ";
                method.setAccessible(true);
                try {
                    method.invoke(null);
                } catch (InvocationTargetException e) {
                    wrong++;
                    System.out.println(sentence + "broke off by " + e.getCause());
                }
            }
        }
        end();
    }

    /** The document's sentence that the answers from here on are about. */
    static void sentence(String words) {
        sentence = "\"" + words + "\": ";
    }

    static void due(String call, Object got, Object want) {
        if (!Objects.equals(got, want)) {
            wrong++;
            System.out.println(sentence + call + " answered " + got + ", due is " + want);
        }
    }

    /** What a call answers, or the plain name of what it throws. */
    static Object of(Call call) {
        try {
            return call.run();
        } catch (RuntimeException e) {
            return e.getClass().getSimpleName();
        }
    }

    static void end() {
        if (wrong != 0) {
            System.out.println(wrong + " answers are not as due");
            System.exit(1);
        }
    }
}
