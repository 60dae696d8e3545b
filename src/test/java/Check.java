import java.lang.reflect.Method;
import java.util.Arrays;
import java.util.Comparator;

/** Collects the answers that are not as due; a test's main method ends with {@link #end()}. */
final class Check {
    private static int wrong = 0;
    private static int looked = 0;
    private static String test = "";

    private Check() {
    }

    static void due(String what, long got, long want) {
        looked++;
        if (got != want) {
            wrong++;
            System.out.println(test + what + " answered " + got + ", due is " + want);
        }
    }

    static void that(String what, boolean holds) {
        looked++;
        if (!holds) {
            wrong++;
            System.out.println(test + "not so: " + what);
        }
    }

    static boolean anyWrong() {
        return wrong != 0;
    }

    /** Runs every method that is named after a promise or after the terms, so that none can be forgotten. */
    static void each(Class<?> tests) {
        Method[] methods = tests.getDeclaredMethods();
        Arrays.sort(methods, Comparator.comparing(Method::getName));
        for (Method m : methods) {
            if (m.getName().startsWith("promise") || m.getName().startsWith("terms")) {
                test = m.getName() + ": ";
                run(m);
            }
        }
        test = "";
    }

    private static void run(Method m) {
        int before = looked;
        try {
            m.invoke(null);
        } catch (ReflectiveOperationException e) {
            that("it ran to its end, but " + e.getCause(), false);
        }
        that("it looked at something", looked > before);
    }

    static void end() {
        System.out.println(wrong == 0 ? looked + " answers are as due" : wrong + " of " + looked + " answers are not as due");
        if (wrong != 0) {
            System.exit(1);
        }
    }
}
