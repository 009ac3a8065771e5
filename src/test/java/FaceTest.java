import java.lang.reflect.Constructor;
import java.lang.reflect.Field;
import java.lang.reflect.Method;
import java.lang.reflect.Modifier;
import java.util.Arrays;
import java.util.Set;
import java.util.TreeSet;

/** The class has the document's face and no other member that can be seen from outside. */
public final class FaceTest {
    private static final Set<String> FACE = new TreeSet<>(Arrays.asList(
        "int NONE", "CutYard()",
        "void begin(int, int, int) IllegalArgumentException",
        "int put(int, int) IllegalArgumentException, UnsupportedOperationException",
        "int store(int) IndexOutOfBoundsException, UnsupportedOperationException",
        "int edit(int, int, int) IndexOutOfBoundsException, IllegalArgumentException, UnsupportedOperationException",
        "void copy(int, int) IndexOutOfBoundsException, UnsupportedOperationException",
        "int size(int) IndexOutOfBoundsException",
        "int get(int, int) IndexOutOfBoundsException",
        "int parts(int) IndexOutOfBoundsException",
        "int part(int, int) IndexOutOfBoundsException",
        "int about(int, int) NoSuchElementException, IllegalArgumentException",
        "int common(int, int) IndexOutOfBoundsException",
        "int all(int) IllegalArgumentException"));

    private FaceTest() {
    }

    public static void main(String[] args) {
        Check check = new Check();
        Set<String> seen = new TreeSet<>();
        for (Field f : CutYard.class.getDeclaredFields()) {
            if (!Modifier.isPrivate(f.getModifiers())) {
                seen.add(f.getType().getSimpleName() + " " + f.getName());
            }
        }
        for (Constructor<?> c : CutYard.class.getDeclaredConstructors()) {
            if (!Modifier.isPrivate(c.getModifiers())) {
                seen.add("CutYard(" + names(c.getParameterTypes()) + ")");
            }
        }
        for (Method m : CutYard.class.getDeclaredMethods()) {
            if (!Modifier.isPrivate(m.getModifiers())) {
                seen.add(m.getReturnType().getSimpleName() + " " + m.getName() + "(" + names(m.getParameterTypes())
                    + ") " + names(m.getExceptionTypes()));
            }
        }
        check.due("the face", seen, FACE);
        check.due("public and final", Modifier.toString(CutYard.class.getModifiers()), "public final");
        check.due("NONE", CutYard.NONE, -1);
        check.end();
    }

    private static String names(Class<?>[] classes) {
        StringBuilder text = new StringBuilder();
        for (Class<?> c : classes) {
            text.append(text.length() == 0 ? "" : ", ").append(c.getSimpleName());
        }
        return text.toString();
    }
}
