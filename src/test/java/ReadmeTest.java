import java.io.IOException;
import java.lang.reflect.Method;
import java.lang.reflect.Modifier;
import java.nio.file.Files;
import java.nio.file.Path;
import java.util.regex.Matcher;
import java.util.regex.Pattern;

/** README.md tells no answer that the class does not give, and leaves out no call. */
public final class ReadmeTest {
    private static final Pattern TOLD = Pattern.compile("\"(.*)\"\\.toCharArray");
    private static final Pattern CALL = Pattern.compile("^x\\.(\\w+)\\(([^)]*)\\); +// (-?\\d+)", Pattern.MULTILINE);
    private static final Pattern ROW_OF_TABLE = Pattern.compile("^\\|[^|]*\\|([^|]*)\\|$", Pattern.MULTILINE);

    private static final Due due = new Due();

    public static void main(String[] args) throws IOException, ReflectiveOperationException {
        String readme = Files.readString(Path.of("README.md"));
        due.about("the readme");
        theRunAnswersAsItSays(readme);
        theTableNamesEveryCall(readme);
        due.end();
    }

    private static void theRunAnswersAsItSays(String readme) throws ReflectiveOperationException {
        Matcher block = Pattern.compile("(?s)```java\n(.*?)```").matcher(readme);
        due.isTrue(block.find(), "there is no run of calls");
        String run = block.group(1);
        CoinsAreDoves x = new CoinsAreDoves();
        Matcher told = TOLD.matcher(run);
        due.isTrue(told.find(), "no town is told");
        for (char c : told.group(1).toCharArray()) {
            x.letter(c);
        }
        int calls = 0;
        Matcher call = CALL.matcher(run);
        while (call.find()) {
            due.is(Long.parseLong(call.group(3)), answer(x, call.group(1), call.group(2)), call.group(1));
            calls++;
        }
        due.is(run.lines().filter(line -> line.startsWith("x.")).count(), calls, "how many calls were read");
    }

    private static int answer(CoinsAreDoves x, String name, String told) throws ReflectiveOperationException {
        Object[] given = told.isEmpty() ? new Object[0] : Pattern.compile(", ").splitAsStream(told).map(Integer::valueOf).toArray();
        for (Method m : CoinsAreDoves.class.getDeclaredMethods()) {
            if (m.getName().equals(name) && m.getParameterCount() == given.length) {
                return (Integer) m.invoke(x, given);
            }
        }
        due.isTrue(false, "there is no " + name + " of " + given.length);
        return 0;
    }

    private static void theTableNamesEveryCall(String readme) {
        StringBuilder named = new StringBuilder(", ");
        Matcher row = ROW_OF_TABLE.matcher(readme);
        while (row.find()) {
            named.append(row.group(1).trim()).append(", ");
        }
        for (Method m : CoinsAreDoves.class.getDeclaredMethods()) {
            if (Modifier.isPublic(m.getModifiers())) {
                due.isTrue(named.indexOf(", " + m.getName() + ", ") >= 0, m.getName() + " is in no table");
            }
        }
    }
}
