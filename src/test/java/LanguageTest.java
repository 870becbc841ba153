import java.io.IOException;
import java.lang.reflect.Executable;
import java.lang.reflect.Field;
import java.lang.reflect.Method;
import java.lang.reflect.Modifier;
import java.nio.file.Files;
import java.nio.file.Path;
import java.util.ArrayList;
import java.util.Arrays;
import java.util.List;
import java.util.Set;
import java.util.TreeSet;
import java.util.regex.Matcher;
import java.util.regex.Pattern;

/**
 * What a look at the source and at its classes can tell of the rules 2 to 6, 11 and 13 of LANGUAGE.md; FaceTest has
 * rule 1, NeverThrowsTest rule 7. It is run from the top of the checkout, as .ci/run is.
 */
public final class LanguageTest {
    private static final Path SOURCE = Path.of("src/main/java/RidingYard.java");
    /** All of the library that the class uses; LANGUAGE.md allows more, and what is added here is looked up there. */
    private static final Set<String> LIBRARY = Set.of("Arrays", "Arrays.fill", "Math", "Math.floorMod", "Math.min",
        "Override");
    private static final Set<Class<?>> STATIC_TYPES = Set.of(int.class, long.class, boolean.class, char.class,
        String.class, int[].class, long[].class, char[].class, byte[].class);
    private static final int MOST_LINES = 60, MOST_PARAMETERS = 7, MOST_FIELDS = 20, MOST_CLASSES = 12;

    public static void main(String[] args) throws IOException {
        String source = withoutComments(Files.readString(SOURCE));
        holds("rule 2: no lambda, no method reference", !has(source, "->|::"));
        holds("rule 2: no anonymous class", !has(source, "new \\w+(<.*>)?\\([^)]*\\)\\s*\\{"));
        holds("rule 4: no import but java.util.Arrays", !has(source, "\\bimport (?!java\\.util\\.Arrays;)"));
        holds("rule 5: no block of statics", !has(source, "\\bstatic\\s*\\{"));
        holds("rule 6: nothing of exceptions", !has(source, "\\b(throws?|try|catch|finally|synchronized|assert)\\b"));
        holds("rule 6: no equals, hashCode, toString", !has(source, "\\b(equals|hashCode|toString)\\b"));
        library(source);
        lengthOfMethods(source);
        List<Class<?>> classes = new ArrayList<>(Arrays.asList(RidingYard.class.getDeclaredClasses()));
        classes.add(RidingYard.class);
        holds("rule 11: at most some twelve classes", classes.size() <= MOST_CLASSES);
        classes.forEach(LanguageTest::fields);
        classes.forEach(LanguageTest::parameters);
        Due.end();
    }

    private static void holds(String rule, boolean holds) {
        Due.due(rule, holds ? 1 : 0, 1);
    }

    private static boolean has(String source, String pattern) {
        return Pattern.compile(pattern).matcher(source).find();
    }

    private static String withoutComments(String source) {
        return source.replaceAll("(?s)/\\*.*?\\*/", "").replaceAll("//[^\\n]*", "");
    }

    /** Rules 3, 4 and 13: every name that begins as a class's does is an own class or of what is listed. */
    private static void library(String source) {
        Set<String> own = new TreeSet<>(Set.of("RidingYard"));
        for (Class<?> c : RidingYard.class.getDeclaredClasses()) {
            own.add(c.getSimpleName());
        }
        Matcher m = Pattern.compile("\\b[A-Z]\\w*[a-z]\\w*(\\.[a-z]\\w*)?").matcher(source);
        while (m.find()) {
            boolean isOwn = own.contains(m.group().split("\\.")[0]);
            holds("rule 4: " + m.group(), isOwn || LIBRARY.contains(m.group()));
        }
        holds("rule 4: no name by its package", !has(source.replace("import java.util.Arrays;", ""), "\\bjavax?\\."));
    }

    /** A method begins at a line that ends with ") {" and ends at the next line that is a brace as far to the right. */
    private static void lengthOfMethods(String source) {
        String[] lines = source.split("\n");
        int methods = 0;
        for (int i = 0; i < lines.length; i++) {
            if (lines[i].matches(" {4}( {4})?\\w.*\\) \\{") && !lines[i].matches(" *(if|for|while|switch) .*")) {
                String end = lines[i].replaceAll("\\S.*", "") + "}";
                int last = i;
                while (last < lines.length && !lines[last].equals(end)) {
                    last++;
                }
                methods++;
                holds("rule 11: some sixty lines: " + lines[i].trim(), last - i + 1 <= MOST_LINES);
            }
        }
        holds("methods were found", methods > 16);
    }

    private static void fields(Class<?> c) {
        int own = 0;
        for (Field f : c.getDeclaredFields()) {
            if (Modifier.isStatic(f.getModifiers())) {
                holds("rule 5: final: " + f, Modifier.isFinal(f.getModifiers()));
                holds("rule 5: type: " + f, STATIC_TYPES.contains(f.getType()));
            } else {
                own++;
            }
        }
        holds("rule 11: fields of " + c, own <= MOST_FIELDS);
    }

    private static void parameters(Class<?> c) {
        List<Executable> all = new ArrayList<>(Arrays.asList(c.getDeclaredMethods()));
        all.addAll(Arrays.asList(c.getDeclaredConstructors()));
        for (Executable e : all) {
            holds("rule 11: parameters of " + e, e.getParameterCount() <= MOST_PARAMETERS);
            holds("rule 2: no lambda in " + e, !(e instanceof Method && e.isSynthetic()));
        }
    }
}
