import java.lang.reflect.Method;
import java.lang.reflect.Modifier;
import java.nio.file.Files;
import java.nio.file.Path;
import java.util.regex.Matcher;
import java.util.regex.Pattern;

/** README.md tells how the class is used, as it is now: its example is run, and its table has every call. */
public final class ReadmeTest {
    private static final Pattern LINE = Pattern.compile("(?m)^belt\\.(\\w+)\\(([^)]*)\\);\\s*// = (-?\\d+): ");
    private static final int LEAST_LINES = 10;

    private ReadmeTest() {
    }

    public static void main(String[] args) throws Exception {
        String text = Files.readString(Path.of("README.md"));
        example(text);
        table(text);
        Check.end();
    }

    private static void example(String text) throws Exception {
        DayBelt belt = new DayBelt();
        Matcher line = LINE.matcher(text);
        int lines = 0;
        while (line.find()) {
            Check.due(line.group(), answer(belt, line.group(1), line.group(2)), Long.parseLong(line.group(3)));
            lines++;
        }
        Check.that("the example has some lines", lines >= LEAST_LINES);
    }

    private static long answer(DayBelt belt, String name, String written) throws Exception {
        Method call = callOf(name);
        String[] numbers = written.isEmpty() ? new String[0] : written.split(", ");
        Object[] args = new Object[numbers.length];
        for (int k = 0; k < numbers.length; k++) {
            if (call.getParameterTypes()[k] == long.class) {
                args[k] = Long.valueOf(numbers[k]);
            } else {
                args[k] = Integer.valueOf(numbers[k]);
            }
        }
        return (Integer) call.invoke(belt, args);
    }

    private static Method callOf(String name) {
        for (Method m : DayBelt.class.getDeclaredMethods()) {
            if (m.getName().equals(name)) {
                return m;
            }
        }
        throw new IllegalArgumentException("no call " + name);
    }

    private static void table(String text) {
        StringBuilder rows = new StringBuilder();
        for (String row : text.split("\n")) {
            rows.append(row.startsWith("| ") ? row : "");
        }
        for (Method m : DayBelt.class.getDeclaredMethods()) {
            if (Modifier.isPublic(m.getModifiers())) {
                Check.that("the table has " + m.getName(), rows.indexOf("`" + m.getName() + "`") >= 0);
            }
        }
    }
}
