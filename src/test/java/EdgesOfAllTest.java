import java.lang.reflect.Method;
import java.util.Set;
import java.util.TreeSet;

/** Every promise has tests of its edges, and a run of 512 calls, that bear its number and the name of its call. */
public final class EdgesOfAllTest {
    private static final Class<?>[] EDGES = {EdgesOfTermsTest.class, EdgesOfPeopleTest.class, EdgesOfDoingTest.class,
        EdgesOfForetellingTest.class, EdgesOfSheetsTest.class};
    private static final Class<?>[] LONG_RUNS = {LongRunsTest.class};
    private static final String[] CALLS = {"new", "person", "of", "car", "day", "rule", "type", "block", "count", "in", "out",
        "steps", "drift", "undo", "seed", "at", "place", "comes", "soonest", "never", "meet", "heaviest", "changed", "goes",
        "image", "restore", "weighed", "film", "sheet", "drop", "item", "copy"};

    private EdgesOfAllTest() {
    }

    public static void main(String[] args) {
        eachPromiseHasOne(EDGES);
        eachPromiseHasOne(LONG_RUNS);
        Check.end();
    }

    private static void eachPromiseHasOne(Class<?>[] all) {
        Set<String> names = new TreeSet<>();
        for (Class<?> tests : all) {
            for (Method m : tests.getDeclaredMethods()) {
                Check.that(m.getName() + " is the name of one test", !m.getName().startsWith("promise") || names.add(m.getName()));
            }
        }
        for (int k = 0; k < CALLS.length; k++) {
            String start = String.format("promise%02d_%s_", k + 1, CALLS[k]);
            Check.that("a test's name begins with " + start, names.removeIf(name -> name.startsWith(start)));
        }
        Check.that("no test is named after another thing: " + names, names.isEmpty());
    }
}
