import java.lang.reflect.Method;
import java.util.Set;
import java.util.TreeSet;

/** Every promise has tests of its edges that bear its number and the name of its call. */
public final class EdgesOfAllTest {
    private static final Class<?>[] TESTS = {EdgesOfTermsTest.class, EdgesOfPeopleTest.class, EdgesOfDoingTest.class,
        EdgesOfForetellingTest.class, EdgesOfSheetsTest.class};
    private static final String[] CALLS = {"new", "person", "of", "car", "day", "rule", "type", "block", "count", "in", "out",
        "steps", "drift", "undo", "seed", "at", "place", "comes", "soonest", "never", "meet", "heaviest", "changed", "goes",
        "image", "restore", "weighed", "film", "sheet", "drop", "item", "copy"};

    private EdgesOfAllTest() {
    }

    public static void main(String[] args) {
        Set<String> names = new TreeSet<>();
        for (Class<?> tests : TESTS) {
            for (Method m : tests.getDeclaredMethods()) {
                Check.that(m.getName() + " is the name of one test", !m.getName().startsWith("promise") || names.add(m.getName()));
            }
        }
        for (int k = 0; k < CALLS.length; k++) {
            String start = String.format("promise%02d_%s_", k + 1, CALLS[k]);
            Check.that("a test's name begins with " + start, names.removeIf(name -> name.startsWith(start)));
        }
        Check.that("no test is named after another thing: " + names, names.isEmpty());
        Check.end();
    }
}
