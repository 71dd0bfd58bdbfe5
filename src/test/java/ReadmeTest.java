import java.io.IOException;
import java.lang.reflect.InvocationTargetException;
import java.lang.reflect.Method;
import java.nio.file.Files;
import java.nio.file.Path;
import java.util.ArrayList;
import java.util.List;
import java.util.regex.Matcher;
import java.util.regex.Pattern;

/** The examples of README.md answer what it tells behind each call. */
final class ReadmeTest {
    private static final Path README = Path.of("README.md");
    private static final String NEW_OBJECT = "OddRulers x = new OddRulers();";
    private static final Pattern TEXT = Pattern.compile("\"(.*)\"\\.chars\\(\\)\\.forEach\\(x::append\\);");
    private static final Pattern CALL =
            Pattern.compile("x\\.(\\w+)\\((.*)\\); +// (throws \\w+|-?\\d+): .+");

    private ReadmeTest() {
    }

    static void readme_examplesAnswerAsTold(Checks c) throws IOException {
        int told = 0;
        OddRulers x = null;
        for (String line : exampleLines()) {
            Matcher text = TEXT.matcher(line);
            Matcher call = CALL.matcher(line);
            if (line.equals(NEW_OBJECT)) {
                x = new OddRulers();
            } else if (text.matches() && x != null) {
                Make.write(x, text.group(1));
            } else if (call.matches() && x != null) {
                c.due("README.md: " + line, answer(x, call.group(1), call.group(2)), call.group(3));
                told++;
            } else {
                c.due("README.md has a line of another kind", line, "");
            }
        }
        c.due("README.md tells answers", told > 0, true);
    }

    static void readme_namesEachCall(Checks c) throws IOException {
        String readme = Files.readString(README);
        for (Method method : OddRulers.class.getMethods()) {
            if (method.getDeclaringClass() == OddRulers.class) {
                c.due("README.md names " + method.getName(), readme.contains("`" + method.getName() + "`"), true);
            }
        }
        c.due("README.md names .ci/run", readme.contains("\n    .ci/run\n"), true);
    }

    private static List<String> exampleLines() throws IOException {
        List<String> lines = new ArrayList<>();
        boolean within = false;
        for (String line : Files.readAllLines(README)) {
            if (line.startsWith("```")) {
                within = line.equals("```java");
            } else if (within) {
                lines.add(line);
            }
        }
        return lines;
    }

    private static String answer(OddRulers x, String name, String arguments) {
        for (Method method : OddRulers.class.getMethods()) {
            if (method.getDeclaringClass() == OddRulers.class && method.getName().equals(name)) {
                return answer(x, method, arguments.isEmpty() ? new String[0] : arguments.split(", "));
            }
        }
        return "there is no such call";
    }

    private static String answer(OddRulers x, Method method, String[] written) {
        Class<?>[] types = method.getParameterTypes();
        if (types.length != written.length) {
            return "it takes " + types.length + " arguments";
        }
        Object[] arguments = new Object[written.length];
        for (int i = 0; i < written.length; i++) {
            arguments[i] = value(types[i], written[i]);
        }
        try {
            return String.valueOf(method.invoke(x, arguments));
        } catch (InvocationTargetException e) {
            return "throws " + e.getCause().getClass().getSimpleName();
        } catch (IllegalAccessException e) {
            return "it is not public";
        }
    }

    private static Object value(Class<?> type, String written) {
        if (type == boolean.class) {
            return Boolean.valueOf(written);
        }
        if (type == long.class) {
            return Long.valueOf(written.replaceAll("[_L]", ""));
        }
        return Integer.valueOf(written);
    }
}
