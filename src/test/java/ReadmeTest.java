import java.io.IOException;
import java.lang.reflect.InvocationTargetException;
import java.lang.reflect.Method;
import java.nio.file.Files;
import java.nio.file.Path;
import java.util.Arrays;
import java.util.HashSet;
import java.util.List;
import java.util.Set;
import java.util.regex.Matcher;
import java.util.regex.Pattern;

/** README.md says how to use the class: its example answers as it says, and its table has a row for each call. */
public final class ReadmeTest {
    private static final Pattern CALL = Pattern.compile("yard\\.(\\w+)\\(([^)]*)\\);\\s+// (?:(-?\\d+):)?.*");
    private static final Pattern ROW = Pattern.compile("\\| `(\\w+)\\(([^)]*)\\)` \\|.*");

    private final Check check = new Check();
    private final CutYard yard = new CutYard();

    private ReadmeTest() {
    }

    public static void main(String[] args) throws IOException, IllegalAccessException {
        ReadmeTest test = new ReadmeTest();
        List<String> lines = Files.readAllLines(Path.of("README.md"));
        test.example(lines);
        test.table(lines);
        test.check.end();
    }

    private void example(List<String> lines) throws IllegalAccessException {
        Set<String> shown = new HashSet<>();
        for (String line : lines) {
            Matcher call = CALL.matcher(line);
            if (call.matches()) {
                String due = String.valueOf(call.group(3));
                check.due(line, answer(call.group(1), call.group(2).split(", ")), due);
                shown.add(call.group(1));
            }
        }
        check.due("the calls of the example", shown, face());
    }

    private void table(List<String> lines) {
        Set<String> rows = new HashSet<>();
        for (String line : lines) {
            Matcher row = ROW.matcher(line);
            if (row.matches()) {
                check.due(line, row.group(2).split(", ").length, named(row.group(1)).getParameterCount());
                rows.add(row.group(1));
            }
        }
        check.due("the rows of the table", rows, face());
    }

    /** A call that answers nothing answers null here, as an answer that README.md doesn't name. */
    private String answer(String name, String[] texts) throws IllegalAccessException {
        Object[] args = Arrays.stream(texts).map(Integer::decode).toArray();
        try {
            return String.valueOf(named(name).invoke(yard, args));
        } catch (InvocationTargetException e) {
            return "throws." + e.getCause().getClass().getSimpleName();
        }
    }

    private static Method named(String name) {
        return Arrays.stream(CutYard.class.getDeclaredMethods()).filter(m -> m.getName().equals(name)).findFirst()
            .orElseThrow();
    }

    private static Set<String> face() {
        Set<String> names = new HashSet<>();
        for (Method m : CutYard.class.getMethods()) {
            if (m.getDeclaringClass() == CutYard.class) {
                names.add(m.getName());
            }
        }
        return names;
    }
}
