import java.io.IOException;
import java.lang.reflect.InvocationTargetException;
import java.lang.reflect.Method;
import java.nio.file.Files;
import java.nio.file.Path;
import java.util.regex.Matcher;
import java.util.regex.Pattern;

/** That README.md's example answers as written, and that it names all calls and all tests. */
public final class ReadmeTest {
    // A call on x, and behind // what it answers, if that is told.
    private static final Pattern CALL =
        Pattern.compile("(?m)^x\\.(\\w+)\\(([^)]*)\\); +// (?:(-?\\d+|true|false|throws \\w+):)?");

    public static void main(String[] args) throws IOException, IllegalAccessException {
        String readme = Files.readString(Path.of("README.md"));
        TextTerms x = new TextTerms();
        int calls = 0;
        Matcher call = CALL.matcher(readme);
        while (call.find()) {
            String answer = answer(x, call.group(1), call.group(2));
            if (call.group(3) != null) {
                Due.holds(call.group() + " answered " + answer, call.group(3).equals(answer));
            }
            calls++;
        }
        Due.holds("the example has some calls: " + calls, calls > 10);
        for (Method method : TextTerms.class.getMethods()) {
            boolean isOfFace = method.getDeclaringClass() == TextTerms.class;
            Due.holds("README.md names " + method.getName(),
                !isOfFace || readme.contains("`" + method.getName() + "("));
        }
        try (var tests = Files.list(Path.of("src/test/java"))) {
            tests.map(path -> path.getFileName().toString().replace(".java", ""))
                .forEach(name ->
                    Due.holds("README.md names " + name, readme.contains("`" + name + "`")));
        }
        Due.close();
    }

    private static String answer(TextTerms x, String name, String written)
            throws IllegalAccessException {
        String[] each = written.isBlank() ? new String[0] : written.split(", ");
        Object[] arguments = new Object[each.length];
        for (int i = 0; i < each.length; i++) {
            arguments[i] = Long.decode(each[i]).intValue();
        }
        for (Method method : TextTerms.class.getMethods()) {
            if (method.getName().equals(name)) {
                try {
                    return String.valueOf(method.invoke(x, arguments));
                } catch (InvocationTargetException e) {
                    return "throws " + e.getCause().getClass().getSimpleName();
                }
            }
        }
        return "no such call";
    }
}
