import java.lang.reflect.Constructor;
import java.lang.reflect.Field;
import java.lang.reflect.Method;
import java.lang.reflect.Modifier;
import java.nio.file.Files;
import java.nio.file.Path;
import java.util.Arrays;
import java.util.Set;
import java.util.TreeSet;

/** The face is the document's and no more, and the source keeps to what LANGUAGE.md leaves, as far as its words tell. */
public final class FaceTest {
    private static final String[] METHODS = {"person 4", "of 2", "car 2", "day 2", "rule 2", "type 1", "block 0", "count 1",
        "in 2", "out 1", "steps 1", "drift 1", "undo 0", "seed 1", "at 3", "place 2", "comes 3", "soonest 4", "never 2",
        "meet 3", "heaviest 1", "changed 4", "goes 2", "image 0", "restore 0", "weighed 5", "film 6", "sheet 3", "drop 1",
        "item 4", "copy 5"};
    private static final String[] CONSTANTS = {"BAD", "NOT", "FULL", "NONE", "NULL", "CAST", "INDEX", "SIZE"};
    private static final String[] RULED_OUT = {"import ", "package ", "catch", "try ", "finally", "synchronized", "assert ",
        "->", "::", "System.out", "System.err", "System.nano", "System.current", "Thread", "Random", "Exact(", "throw "};

    public static void main(String[] args) throws Exception {
        face();
        inside();
        words(Files.readString(Path.of("src/main/java/DayBelt.java")));
        Check.end();
    }

    private static void face() {
        Class<?> c = DayBelt.class;
        Check.that("the class is public and final", Modifier.isPublic(c.getModifiers()) && Modifier.isFinal(c.getModifiers()));
        Set<String> methods = new TreeSet<>();
        Set<String> publicNames = new TreeSet<>();
        for (Method m : c.getDeclaredMethods()) {
            if (!Modifier.isPrivate(m.getModifiers()) && !m.isSynthetic()) {
                Check.that(m.getName() + " is public and of an object",
                    Modifier.isPublic(m.getModifiers()) && !Modifier.isStatic(m.getModifiers()));
                Check.that(m.getName() + " answers an int", m.getReturnType() == int.class);
                methods.add(m.getName() + " " + m.getParameterCount());
                publicNames.add(m.getName());
            }
        }
        Check.that("the methods are the document's: " + methods, methods.equals(new TreeSet<>(Arrays.asList(METHODS))));
        for (Method m : c.getDeclaredMethods()) {
            Check.that("private " + m.getName() + " bears no public name",
                !Modifier.isPrivate(m.getModifiers()) || !publicNames.contains(m.getName()));
        }
        Set<String> constants = new TreeSet<>();
        for (Field f : c.getDeclaredFields()) {
            if (!Modifier.isPrivate(f.getModifiers())) {
                constants.add(f.getName());
            }
            Check.that(f.getName() + " is final, if static", !Modifier.isStatic(f.getModifiers()) || Modifier.isFinal(f.getModifiers()));
        }
        Check.that("the constants are the document's: " + constants, constants.equals(new TreeSet<>(Arrays.asList(CONSTANTS))));
        Constructor<?>[] made = c.getConstructors();
        Check.that("one constructor without arguments", made.length == 1 && made[0].getParameterCount() == 0);
    }

    private static void inside() {
        Class<?>[] classes = DayBelt.class.getDeclaredClasses();
        Check.that("some twelve classes at most", classes.length + 1 <= 12);
        for (Class<?> c : classes) {
            Check.that(c + " is static", Modifier.isStatic(c.getModifiers()));
            int fields = 0;
            for (Field f : c.getDeclaredFields()) {
                fields += Modifier.isStatic(f.getModifiers()) ? 0 : 1;
            }
            Check.that(c + " has some twenty fields at most", fields <= 20);
            for (Method m : c.getDeclaredMethods()) {
                Check.that(m + " has seven parameters at most", m.getParameterCount() <= 7);
            }
        }
    }

    private static void words(String source) {
        String code = source.replaceAll("(?s)/\\*.*?\\*/", "").replaceAll("//[^\n]*", "");
        for (String word : RULED_OUT) {
            Check.that("no '" + word + "' in the class", !code.contains(word));
        }
        for (int k = 0; k < source.length(); k++) {
            if (source.charAt(k) > 126) {
                Check.that("only plain letters, at " + k, false);
            }
        }
    }
}
