import java.io.IOException;
import java.lang.reflect.InvocationTargetException;
import java.lang.reflect.Method;
import java.lang.reflect.Modifier;
import java.nio.file.Files;
import java.nio.file.Path;
import java.util.ArrayList;
import java.util.List;
import java.util.regex.Matcher;
import java.util.regex.Pattern;

/** What README.md says of the class: its example answers as it says, and each call has a row, with what it throws. */
final class ReadmeTest {
    private static final Pattern MADE = Pattern.compile("SortedRuns x = new SortedRuns\\((\\d+)\\);");
    private static final Pattern CALL = Pattern.compile("x\\.(\\w+)\\((.*)\\); +// (.*)");
    private static final Pattern ROW = Pattern.compile("\\| `(\\w+)\\(.*\\)` \\| .* \\| (.*)\\|");
    private static final Pattern THROWN = Pattern.compile("(State|Index|Argument): ");

    private ReadmeTest() {
    }

    public static void main(String[] args) throws IOException {
        List<String> lines = Files.readAllLines(Path.of("README.md"));
        example(lines);
        rows(lines);
        Check.due("how the tests are run", lines.contains(".ci/run"), true);
        Check.end("ReadmeTest");
    }

    private static void example(List<String> lines) {
        int first = lines.indexOf("```java") + 1;
        Matcher made = MADE.matcher(lines.get(first));
        Check.due("the example makes an object", made.matches(), true);
        SortedRuns x = new SortedRuns(Integer.parseInt(made.group(1)));
        for (int i = first + 1; !lines.get(i).equals("```"); i++) {
            Matcher call = CALL.matcher(lines.get(i));
            Check.due("a call with its answer: " + lines.get(i), call.matches(), true);
            Method method = named(call.group(1));
            String answer = answer(x, method, call.group(2).split(", "));
            if (method.getReturnType() != void.class) {
                Check.due(lines.get(i), answer, call.group(3).split(":")[0]);
            }
        }
    }

    private static String answer(SortedRuns x, Method method, String[] words) {
        Object[] values = new Object[method.getParameterCount()];
        for (int i = 0; i < values.length; i++) {
            long value = words[i].equals("SortedRuns.NONE") ? SortedRuns.NONE : Long.parseLong(words[i]);
            values[i] = method.getParameterTypes()[i] == int.class ? (Object) (int) value : (Object) value;
        }
        try {
            return String.valueOf(method.invoke(x, values));
        } catch (InvocationTargetException | IllegalAccessException e) {
            return String.valueOf(e.getCause());
        }
    }

    private static void rows(List<String> lines) {
        List<String> told = new ArrayList<>();
        for (String line : lines) {
            Matcher row = ROW.matcher(line);
            if (row.matches()) {
                told.add(row.group(1));
                Check.due(line, thrownBy(row.group(2)), declaredBy(named(row.group(1))));
            }
        }
        for (Method m : SortedRuns.class.getDeclaredMethods()) {
            if (Modifier.isPublic(m.getModifiers())) {
                Check.due("a row for " + m.getName(), told.contains(m.getName()), true);
            }
        }
        Check.due("rows", told.size(), 21);
    }

    private static String thrownBy(String cell) {
        StringBuilder all = new StringBuilder();
        Matcher thrown = THROWN.matcher(cell);
        while (thrown.find()) {
            all.append(thrown.group(1)).append(' ');
        }
        return all.toString();
    }

    private static String declaredBy(Method method) {
        StringBuilder all = new StringBuilder();
        for (Class<?> e : method.getExceptionTypes()) {
            all.append(e == IllegalStateException.class ? "State " : e == IndexOutOfBoundsException.class ? "Index "
                    : e == IllegalArgumentException.class ? "Argument " : e.getName());
        }
        return all.toString();
    }

    private static Method named(String name) {
        for (Method m : SortedRuns.class.getDeclaredMethods()) {
            if (Modifier.isPublic(m.getModifiers()) && m.getName().equals(name)) {
                return m;
            }
        }
        throw new AssertionError("README.md names a call that is none: " + name);
    }
}
