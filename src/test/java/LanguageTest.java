import java.io.IOException;
import java.nio.file.Files;
import java.nio.file.Path;
import java.util.regex.Matcher;
import java.util.regex.Pattern;

/** The rules of LANGUAGE.md that can be seen from the file's words. */
public final class LanguageTest {
    private static final String[] NEVER = {"\\b(throw|throws|try|catch|finally|synchronized|assert|volatile|native)\\b",
        "\\b(import|package|protected)\\b", "\\b(Object|System\\.(?!arraycopy)|Thread|Exception|Error|Throwable)\\b",
        "\\b\\w+Exact\\b", "->", "::", "@", "\\binstanceof\\b", "\\b(equals|hashCode|toString)\\b", "\\bnew \\w+\\(\\) \\{"};
    private static final int LONGEST_METHOD = 60;

    public static void main(String[] args) throws IOException {
        Due due = new Due();
        due.about("the language");
        String source = Files.readString(Path.of("src/main/java/CoinsAreDoves.java"));
        due.isTrue(source.chars().allMatch(c -> c == '\n' || c >= 32 && c < 127), "a sign that is not of 32 .. 126");
        String code = source.replaceAll("(?s)/\\*.*?\\*/", "").replaceAll("//[^\n]*", "")
            .replaceAll("\"(\\\\.|[^\"\\\\])*\"", "\"\"");
        for (String never : NEVER) {
            Matcher m = Pattern.compile(never).matcher(code);
            due.isTrue(!m.find(), "the code has what " + never + " finds");
        }
        Matcher statics = Pattern.compile("\\bstatic (?!final|class|boolean \\w+\\(|int \\w+\\(|String \\w+\\()").matcher(code);
        due.isTrue(!statics.find(), "a static field is not final");
        lengthsOfMethods(due, code);
        due.end();
    }

    private static void lengthsOfMethods(Due due, String code) {
        int start = -1;
        String head = "";
        String[] lines = code.split("\n");
        for (int i = 0; i < lines.length; i++) {
            if (lines[i].matches(" {4,8}[\\w\\[\\] ]+\\([^;]*\\) \\{")) {
                start = i;
                head = lines[i].trim();
                due.isTrue(head.split(",").length <= 7, head + " takes too many arguments");
            }
            if (start >= 0 && lines[i].matches(" {4,8}\\}")) {
                due.isTrue(i - start < LONGEST_METHOD, head + " is too long");
                start = -1;
            }
        }
    }
}
