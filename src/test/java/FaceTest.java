import java.lang.reflect.Constructor;
import java.lang.reflect.Field;
import java.lang.reflect.Method;
import java.lang.reflect.Modifier;
import java.util.Arrays;
import java.util.Set;
import java.util.TreeSet;

/**
 * The class has the document's face and no other member that can be seen from outside, and what LANGUAGE.md (rules 1
 * and 5) asks of names, nested classes and static fields.
 */
public final class FaceTest {
    private static final Set<String> FACE = new TreeSet<>(Arrays.asList(
        "int NONE", "CutYard()",
        "void begin(int, int, int) IllegalArgumentException",
        "int put(int, int) IllegalArgumentException, UnsupportedOperationException",
        "int store(int) IndexOutOfBoundsException, UnsupportedOperationException",
        "int edit(int, int, int) IndexOutOfBoundsException, IllegalArgumentException, UnsupportedOperationException",
        "void copy(int, int) IndexOutOfBoundsException, UnsupportedOperationException",
        "int size(int) IndexOutOfBoundsException",
        "int get(int, int) IndexOutOfBoundsException",
        "int parts(int) IndexOutOfBoundsException",
        "int part(int, int) IndexOutOfBoundsException",
        "int about(int, int) NoSuchElementException, IllegalArgumentException",
        "int common(int, int) IndexOutOfBoundsException",
        "int all(int) IllegalArgumentException"));

    private FaceTest() {
    }

    public static void main(String[] args) {
        Check check = new Check();
        Set<String> seen = new TreeSet<>();
        for (Field f : CutYard.class.getDeclaredFields()) {
            if (!Modifier.isPrivate(f.getModifiers())) {
                seen.add(f.getType().getSimpleName() + " " + f.getName());
            }
        }
        for (Constructor<?> c : CutYard.class.getDeclaredConstructors()) {
            if (!Modifier.isPrivate(c.getModifiers())) {
                seen.add("CutYard(" + names(c.getParameterTypes()) + ")");
            }
        }
        for (Method m : CutYard.class.getDeclaredMethods()) {
            if (!Modifier.isPrivate(m.getModifiers())) {
                seen.add(m.getReturnType().getSimpleName() + " " + m.getName() + "(" + names(m.getParameterTypes())
                    + ") " + names(m.getExceptionTypes()));
            }
        }
        check.due("the face", seen, FACE);
        check.due("public and final", Modifier.toString(CutYard.class.getModifiers()), "public final");
        check.due("NONE", CutYard.NONE, -1);
        inside(check, CutYard.class, publicNames());
        for (Class<?> nested : CutYard.class.getDeclaredClasses()) {
            int kind = nested.getModifiers();
            check.due(nested + " is static", Modifier.isStatic(kind), true);
            check.due(nested + " is open", Modifier.isPublic(kind) || Modifier.isProtected(kind), false);
            inside(check, nested, publicNames());
        }
        check.end();
    }

    /** No hidden method bears the name of a public one, and nothing static can change. */
    private static void inside(Check check, Class<?> one, Set<String> publicNames) {
        for (Method m : one.getDeclaredMethods()) {
            if (!Modifier.isPublic(m.getModifiers())) {
                check.due(m + " bears a public name", publicNames.contains(m.getName()), false);
            }
        }
        for (Field f : one.getDeclaredFields()) {
            if (Modifier.isStatic(f.getModifiers())) {
                check.due(f + " is a constant", Modifier.isFinal(f.getModifiers()) && f.getType() == int.class, true);
            }
        }
    }

    private static Set<String> publicNames() {
        Set<String> names = new TreeSet<>();
        for (Method m : CutYard.class.getDeclaredMethods()) {
            if (Modifier.isPublic(m.getModifiers())) {
                names.add(m.getName());
            }
        }
        return names;
    }

    private static String names(Class<?>[] classes) {
        StringBuilder text = new StringBuilder();
        for (Class<?> c : classes) {
            text.append(text.length() == 0 ? "" : ", ").append(c.getSimpleName());
        }
        return text.toString();
    }
}
