import java.lang.reflect.Constructor;
import java.lang.reflect.Field;
import java.lang.reflect.Method;
import java.lang.reflect.Modifier;
import java.util.Arrays;
import java.util.Set;
import java.util.TreeSet;

/** The public face of the document, and rule 1 of LANGUAGE.md: nothing else can be seen from outside. */
public final class FaceTest {
    private static final Set<String> FACE = new TreeSet<>(Arrays.asList(
        "horse 3", "wagon 2", "lead 2", "empty 2", "tear 2", "hang 2", "act 4", "came 0", "task 4", "clear 0",
        "day 0", "book 2", "horseTells 2", "shed 1", "same 2", "count 1"));

    public static void main(String[] args) {
        Due.due("BAD", RidingYard.BAD, Due.BAD);
        Due.due("OUTSIDE", RidingYard.OUTSIDE, Due.OUTSIDE);
        Due.due("FULL", RidingYard.FULL, Due.FULL);
        Due.due("modifiers", RidingYard.class.getModifiers(), Modifier.PUBLIC | Modifier.FINAL);
        methods();
        fields();
        constructors();
        nestedClasses();
        Due.end();
    }

    private static void methods() {
        Set<String> seen = new TreeSet<>();
        Set<String> names = new TreeSet<>();
        for (Method m : RidingYard.class.getDeclaredMethods()) {
            if (Modifier.isPublic(m.getModifiers())) {
                seen.add(m.getName() + " " + m.getParameterCount());
                names.add(m.getName());
                Due.due(m + " answers an int", m.getReturnType() == int.class ? 1 : 0, 1);
                Due.due(m + " is static", Modifier.isStatic(m.getModifiers()) ? 1 : 0, 0);
                for (Class<?> p : m.getParameterTypes()) {
                    Due.due(m + " takes ints", p == int.class ? 1 : 0, 1);
                }
            }
        }
        Due.due("public methods are " + seen, seen.equals(FACE) ? 1 : 0, 1);
        for (Method m : RidingYard.class.getDeclaredMethods()) {
            if (!Modifier.isPublic(m.getModifiers())) {
                Due.due(m + " is private", Modifier.isPrivate(m.getModifiers()) ? 1 : 0, 1);
                Due.due(m + " has a public one's name", names.contains(m.getName()) ? 1 : 0, 0);
            }
        }
    }

    private static void fields() {
        Set<String> seen = new TreeSet<>();
        for (Field f : RidingYard.class.getDeclaredFields()) {
            int m = f.getModifiers();
            if (Modifier.isPublic(m)) {
                seen.add(f.getName());
            } else {
                Due.due(f + " is private", Modifier.isPrivate(m) ? 1 : 0, 1);
            }
            if (Modifier.isStatic(m)) {
                Due.due(f + " is final", Modifier.isFinal(m) ? 1 : 0, 1);
            }
        }
        Set<String> due = new TreeSet<>(Arrays.asList("BAD", "OUTSIDE", "FULL"));
        Due.due("public fields are " + seen, seen.equals(due) ? 1 : 0, 1);
    }

    private static void constructors() {
        Constructor<?>[] all = RidingYard.class.getDeclaredConstructors();
        Due.due("constructors", all.length, 1);
        Due.due("parameters of the constructor", all[0].getParameterCount(), 0);
        Due.due("constructor is public", Modifier.isPublic(all[0].getModifiers()) ? 1 : 0, 1);
    }

    private static void nestedClasses() {
        Class<?>[] nested = RidingYard.class.getDeclaredClasses();
        Due.due("at most some twelve classes", nested.length + 1 <= 12 ? 1 : 0, 1);
        for (Class<?> c : nested) {
            Due.due(c + " is static", Modifier.isStatic(c.getModifiers()) ? 1 : 0, 1);
            Due.due(c + " is open", c.getModifiers() & (Modifier.PUBLIC | Modifier.PROTECTED), 0);
        }
    }
}
