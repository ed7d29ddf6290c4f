import java.io.IOException;
import java.nio.file.Files;
import java.nio.file.Path;
import java.util.List;
import java.util.regex.Matcher;
import java.util.regex.Pattern;

/** The rules of ../shared/LANGUAGE.md that can be seen in the text of the program. */
public final class LanguageTest {
    private static final Path SOURCE = Path.of("src/main/java/BeltMarks.java");
    /** Words and signs that the rules leave out. */
    private static final List<String> FORBIDDEN = List.of("\\bpackage\\b",
        "\\bimport (?!java\\.util\\.(List|ArrayList|Arrays|Iterator);)", "\\bthrows?\\b", "\\btry\\b", "\\bcatch\\b",
        "\\bfinally\\b", "\\bsynchronized\\b", "\\bassert\\b", "::", "\\bvar\\b", "\\bObject\\b", "\\bClass\\b",
        "\\bThread\\b", "\\w+Exact\\b", "\\bSystem\\.(?!arraycopy\\b)", "\\bMath\\.(random|sqrt|pow)\\b",
        "\\bwhile \\(true\\)", "\\bfor \\(;;\\)", "(?m)^(?!\\s*(case|default)\\b).*->");
    private static final int LONGEST_METHOD = 60;
    private static final int MOST_CLASSES = 12;

    public static void main(String[] args) throws IOException {
        String text = Files.readString(SOURCE);
        String code = text.replaceAll("(?s)/\\*.*?\\*/", "").replaceAll("//[^\n]*", "");
        for (String forbidden : FORBIDDEN) {
            Matcher found = Pattern.compile(forbidden).matcher(code);
            Due.isTrue("no " + forbidden, !found.find());
        }
        Due.isTrue("plain characters", text.chars().allMatch(c -> c == '\n' || c >= 32 && c < 127));
        long classes = Pattern.compile("\\bclass \\w+").matcher(code).results().count();
        Due.isTrue(classes + " classes are few", classes <= MOST_CLASSES);
        methodsAreShort(code);
        staticFieldsAreConstant(code);
        Due.end();
    }

    private static void methodsAreShort(String code) {
        String begin = "";
        int since = 0;
        for (String line : code.split("\n")) {
            since++;
            if (line.matches(" {4,8}[\\w\\[\\]<> ]+\\(.*\\) \\{")) {
                begin = line.trim();
                since = 0;
            } else if (line.matches(" {4,8}\\}")) {
                Due.isTrue("short: " + begin, since <= LONGEST_METHOD);
            }
        }
    }

    private static void staticFieldsAreConstant(String code) {
        for (String line : code.split("\n")) {
            boolean field = line.matches(" +.*\\bstatic\\b.*=.*");
            Due.isTrue("final: " + line.trim(), !field || line.contains("static final "));
        }
    }
}
