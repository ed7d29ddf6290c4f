import java.io.IOException;
import java.lang.reflect.Field;
import java.lang.reflect.Method;
import java.lang.reflect.Modifier;
import java.nio.file.Files;
import java.nio.file.Path;
import java.util.List;
import java.util.regex.Matcher;
import java.util.regex.Pattern;

/** The rules of ../shared/LANGUAGE.md that can be seen in the text of the program. */
public final class LanguageTest {
    private static final Path SOURCE = Path.of("src/main/java/BeltMarks.java");
    /** Words and signs that the rules leave out. */
    private static final List<String> FORBIDDEN = List.of("\\bpackage\\b",
        "\\bimport (?!java\\.util\\.(List|ArrayList|Arrays|Iterator);)", "\\bthrows?\\b", "\\btry\\b", "\\bcatch\\b",
        "\\bfinally\\b", "\\bsynchronized\\b", "\\bassert\\b", "::", "\\bvar\\b", "\\bObject\\b", "\\bClass\\b",
        "\\bThread\\b", "\\w+Exact\\b", "\\bSystem\\.(?!arraycopy\\b)", "\\bMath\\.(random|sqrt|pow)\\b",
        "\\bwhile \\(true\\)", "\\bfor \\(;;\\)", "(?m)^(?!\\s*(case|default)\\b).*->");
    /** The first line of a method: a loop or a condition can stand as far in as a method of a class inside. */
    private static final String METHOD = " {4,8}(?! |if\\b|for\\b|while\\b|switch\\b)[\\w\\[\\]<> ]+\\(.*\\) \\{";
    private static final int LONGEST_METHOD = 60;
    private static final int MOST_CLASSES = 12;
    private static final int MOST_PARAMETERS = 7;
    private static final int MOST_FIELDS = 20;
    private static final List<Class<?>> STATIC_TYPES = List.of(int.class, long.class, boolean.class, char.class,
        String.class, int[].class, long[].class, char[].class, byte[].class);

    public static void main(String[] args) throws IOException {
        String text = Files.readString(SOURCE);
        String code = text.replaceAll("(?s)/\\*.*?\\*/", "").replaceAll("//[^\n]*", "");
        for (String forbidden : FORBIDDEN) {
            Matcher found = Pattern.compile(forbidden).matcher(code);
            Due.isTrue("no " + forbidden, !found.find());
        }
        Due.isTrue("plain characters", text.chars().allMatch(c -> c == '\n' || c >= 32 && c < 127));
        long classes = Pattern.compile("\\bclass \\w+").matcher(code).results().count();
        Due.isTrue(classes + " classes are few", classes <= MOST_CLASSES);
        methodsAreShort(code);
        staticFieldsAreConstant(code);
        objectsAreMadeInConstructorsAlone(code);
        classIsPlain(BeltMarks.class);
        for (Class<?> inside : BeltMarks.class.getDeclaredClasses()) {
            classIsPlain(inside);
        }
        Due.end();
    }

    private static void methodsAreShort(String code) {
        String begin = "";
        int since = 0;
        for (String line : code.split("\n")) {
            since++;
            if (line.matches(METHOD)) {
                begin = line.trim();
                since = 0;
            } else if (line.matches(" {4,8}\\}")) {
                Due.isTrue("short: " + begin, since <= LONGEST_METHOD);
            }
        }
    }

    private static void staticFieldsAreConstant(String code) {
        for (String line : code.split("\n")) {
            boolean field = line.matches(" +.*\\bstatic\\b.*=.*");
            Due.isTrue("final: " + line.trim(), !field || line.contains("static final "));
        }
    }

    /** So that what a run makes does not grow with its calls. */
    private static void objectsAreMadeInConstructorsAlone(String code) {
        boolean inConstructor = false;
        for (String line : code.split("\n")) {
            if (line.matches(METHOD)) {
                inConstructor = line.matches(" +(public )?[A-Z]\\w*\\(.*");
            }
            boolean field = line.matches(" {4,8}(private )?final .*");
            Due.isTrue("made once: " + line.trim(), inConstructor || field || !line.contains("new "));
        }
    }

    private static void classIsPlain(Class<?> one) {
        for (Method method : one.getDeclaredMethods()) {
            Due.isTrue(method + " takes few parameters", method.getParameterCount() <= MOST_PARAMETERS);
        }
        int fields = 0;
        for (Field field : one.getDeclaredFields()) {
            if (Modifier.isStatic(field.getModifiers())) {
                Due.isTrue(field + " is a constant", Modifier.isFinal(field.getModifiers()) && STATIC_TYPES.contains(field.getType()));
            } else {
                fields++;
            }
        }
        Due.isTrue(one + " has few fields", fields <= MOST_FIELDS);
    }
}
