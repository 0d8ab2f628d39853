import java.io.IOException;
import java.nio.file.Files;
import java.nio.file.Path;
import java.util.ArrayList;
import java.util.LinkedHashMap;
import java.util.List;
import java.util.Map;
import java.util.regex.Matcher;
import java.util.regex.Pattern;

/** The rules of LANGUAGE.md that can be seen from the file's words. */
public final class LanguageTest {
    private static final String[] NEVER = {"\\b(throw|throws|try|catch|finally|synchronized|assert|volatile|native)\\b",
        "\\b(import|package|protected)\\b", "\\b(Object|System\\.(?!arraycopy)|Thread|Exception|Error|Throwable)\\b",
        "\\b\\w+Exact\\b", "->", "::", "@", "\\binstanceof\\b", "\\b(equals|hashCode|toString)\\b", "\\bnew \\w+\\(\\) \\{",
        "\\b(Math\\.(?!min|max)|Integer\\.(?!bitCount))", "\\b(Character|Long|Arrays|List|ArrayList|StringBuilder)\\b"};
    private static final List<String> LIBRARY = List.of("length", "charAt", "isEmpty", "indexOf", "bitCount", "min", "max",
        "arraycopy");
    private static final int LONGEST_METHOD = 60;
    private static final int MOST_ARGUMENTS = 7;
    private static final int DEEPEST = 8;
    private static final Pattern CLASS = Pattern.compile("^(?: {4})?(?:public |private |static |final )*class (\\w+)(?: extends (\\w+))? \\{");
    private static final Pattern METHOD = Pattern.compile("^ {4,8}(?:public |private |static )*[\\w\\[\\]]+ (\\w+)\\(([^)]*)\\) \\{");
    private static final Pattern CALL = Pattern.compile("(\\bsuper\\.|\\.)?\\b(?!if\\b|for\\b|while\\b|switch\\b|return\\b)(\\w+)\\(");

    /** A method of the file, with what it calls. */
    private static final class Method {
        final String owner;
        final String name;
        final int arguments;
        final StringBuilder body = new StringBuilder();
        int lines = 0;

        Method(String owner, String name, String arguments) {
            this.owner = owner;
            this.name = name;
            this.arguments = arguments.isBlank() ? 0 : arguments.split(",").length;
        }
    }

    private static final Due due = new Due();
    private static final Map<String, String> above = new LinkedHashMap<>();
    private static final List<Method> methods = new ArrayList<>();

    public static void main(String[] args) throws IOException {
        due.about("the language");
        String source = Files.readString(Path.of("src/main/java/CoinsAreDoves.java"));
        due.isTrue(source.chars().allMatch(c -> c == '\n' || c >= 32 && c < 127), "a sign that is not of 32 .. 126");
        String code = source.replaceAll("(?s)/\\*.*?\\*/", "").replaceAll("//[^\n]*", "")
            .replaceAll("\"(\\\\.|[^\"\\\\])*\"", "\"\"");
        for (String never : NEVER) {
            Matcher m = Pattern.compile(never).matcher(code);
            due.isTrue(!m.find(), "the code has what " + never + " finds");
        }
        Matcher statics = Pattern.compile("\\bstatic (?!final|class|boolean \\w+\\(|int \\w+\\(|String \\w+\\()").matcher(code);
        due.isTrue(!statics.find(), "a static field is not final");
        readMethods(code);
        due.isTrue(methods.size() > 100, "the methods were not found");
        due.is(9, above.size(), "the classes found");
        for (Method m : methods) {
            lookAt(m);
        }
        due.end();
    }

    private static void readMethods(String code) {
        String owner = "";
        Method open = null;
        for (String line : code.split("\n")) {
            Matcher c = CLASS.matcher(line);
            Matcher m = METHOD.matcher(line);
            if (c.find()) {
                owner = c.group(1);
                above.put(owner, c.group(2) == null ? "" : c.group(2));
            } else if (open == null && m.find()) {
                open = new Method(owner, m.group(1), m.group(2));
                methods.add(open);
            } else if (open != null && line.matches(open.owner.equals("CoinsAreDoves") ? " {4}\\}" : " {8}\\}")) {
                open = null;
            } else if (open != null) {
                open.lines++;
                open.body.append(line).append('\n');
            }
        }
    }

    private static void lookAt(Method m) {
        String told = m.owner + "." + m.name;
        due.isTrue(m.lines + 2 <= LONGEST_METHOD, told + " is too long");
        due.isTrue(m.arguments <= MOST_ARGUMENTS, told + " takes too many arguments");
        due.isTrue(!Pattern.compile("\\bnew\\b").matcher(m.body).find(), told + " makes an object at each call");
        int deep = depth(m, 1);
        due.isTrue(deep <= DEEPEST, told + " goes " + deep + " deep");
    }

    /** How many calls stand open at once at most from this one on; too many, if one calls itself. */
    private static int depth(Method m, int upTo) {
        if (upTo > 2 * DEEPEST) {
            return upTo;
        }
        int most = 1;
        Matcher call = CALL.matcher(m.body);
        while (call.find()) {
            most = Math.max(most, 2);
            for (Method called : calledBy(m, call.group(1), call.group(2))) {
                most = Math.max(most, 1 + depth(called, upTo + 1));
            }
        }
        return most;
    }

    private static List<Method> calledBy(Method m, String behind, String name) {
        List<Method> found = new ArrayList<>();
        if (".".equals(behind)) {
            for (Method other : methods) {
                if (other.name.equals(name) && !other.owner.equals("CoinsAreDoves")) {
                    found.add(other);
                }
            }
            due.isTrue(!found.isEmpty() || LIBRARY.contains(name), m.owner + "." + m.name + " calls the library's " + name);
            return found;
        }
        String owner = "super.".equals(behind) ? above.get(m.owner) : m.owner;
        Method own = inOrAbove(owner, name);
        found.add(own != null ? own : inOrAbove("CoinsAreDoves", name));
        due.isTrue(found.get(0) != null, m.owner + "." + m.name + " calls " + name + ", which was not found");
        return found.get(0) == null ? List.of() : found;
    }

    private static Method inOrAbove(String owner, String name) {
        for (String at = owner; at != null && !at.isEmpty(); at = above.get(at)) {
            for (Method m : methods) {
                if (m.owner.equals(at) && m.name.equals(name)) {
                    return m;
                }
            }
        }
        return null;
    }
}
