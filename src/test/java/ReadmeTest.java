import java.io.IOException;
import java.lang.reflect.Method;
import java.nio.file.Files;
import java.nio.file.Path;
import java.util.Set;
import java.util.TreeSet;
import java.util.regex.Matcher;
import java.util.regex.Pattern;
import java.util.stream.Collectors;
import java.util.stream.Stream;

/** README.md: the answers that its example tells, and the tests that it lists. */
public final class ReadmeTest {
    private static final Path README = Path.of("README.md");
    private static final Path TESTS = Path.of("src/test/java");
    /** A call of the example, and behind the last colon its answer. */
    private static final Pattern CALL = Pattern.compile("marks\\.(\\w+)\\((.*?)\\); +// .*: (-?\\d+)");

    public static void main(String[] args) throws IOException, ReflectiveOperationException {
        String text = Files.readString(README);
        exampleAnswersAsTold(text);
        testsAreListed(text);
        Due.end();
    }

    private static void exampleAnswersAsTold(String text) throws ReflectiveOperationException {
        BeltMarks marks = new BeltMarks();
        Set<String> called = new TreeSet<>();
        for (String line : text.split("\n")) {
            if (!line.startsWith("marks.")) {
                continue;
            }
            Matcher call = CALL.matcher(line);
            Due.isTrue("a call and its answer: " + line, call.matches());
            if (call.matches()) {
                called.add(call.group(1));
                Due.is(line, answer(marks, call.group(1), call.group(2)), Long.parseLong(call.group(3)));
            }
        }
        Due.is("methods in the example", called.size(), 15);
    }

    private static int answer(BeltMarks marks, String name, String written) throws ReflectiveOperationException {
        String[] arguments = written.isEmpty() ? new String[0] : written.split(", ");
        for (Method method : BeltMarks.class.getMethods()) {
            if (method.getName().equals(name) && method.getParameterCount() == arguments.length) {
                Object[] values = new Object[arguments.length];
                for (int i = 0; i < values.length; i++) {
                    long value = number(arguments[i]);
                    values[i] = method.getParameterTypes()[i] == long.class ? (Object) value : (Object) (int) value;
                }
                return (int) method.invoke(marks, values);
            }
        }
        throw new NoSuchMethodException(name);
    }

    private static long number(String written) throws ReflectiveOperationException {
        String name = "BeltMarks.";
        if (written.startsWith(name)) {
            return BeltMarks.class.getField(written.substring(name.length())).getInt(null);
        }
        return Long.decode(written.replace("_", "").replace("L", ""));
    }

    private static void testsAreListed(String text) throws IOException {
        Set<String> listed = Pattern.compile("(?m)^\\| `(\\w+Test)` \\|").matcher(text).results()
            .map(row -> row.group(1)).collect(Collectors.toCollection(TreeSet::new));
        try (Stream<Path> files = Files.list(TESTS)) {
            Set<String> found = files.map(file -> file.getFileName().toString().replace(".java", ""))
                .filter(name -> name.endsWith("Test")).collect(Collectors.toCollection(TreeSet::new));
            Due.isTrue("listed are " + listed + ", there are " + found, listed.equals(found));
        }
    }
}
