import java.io.IOException;
import java.lang.reflect.Field;
import java.lang.reflect.Method;
import java.lang.reflect.Modifier;
import java.nio.file.Files;
import java.nio.file.Path;
import java.util.ArrayList;
import java.util.Arrays;
import java.util.List;
import java.util.Set;
import java.util.TreeSet;

/** Some rules of LANGUAGE.md that can be seen in the source's lines, or in the classes. */
final class LanguageTest {
    private static final Path SOURCE = Path.of("src", "main", "java", "OddRulers.java");
    private static final String[] NOT_USED = {
        "->", "::", "catch", "finally", "synchronized", "assert ", "instanceof", "var ", "static {", "Exact(",
        "System.", "Random", "Thread", "Object", "\" +", "+ \"", "package ", "package\t",
    };

    private LanguageTest() {
    }

    static void language_wordsThatAreNotUsed(Checks c) throws IOException {
        List<String> lines = Files.readAllLines(SOURCE);
        for (int i = 0; i < lines.size(); i++) {
            for (String word : NOT_USED) {
                c.due("line " + (i + 1) + " has " + word, lines.get(i).contains(word), false);
            }
            c.due("line " + (i + 1) + " is long", lines.get(i).length() > 120, false);
            c.due("line " + (i + 1) + " has other signs than 1 to 127",
                    lines.get(i).chars().allMatch(sign -> sign >= 1 && sign <= 127), true);
        }
    }

    static void language_imports(Checks c) throws IOException {
        for (String line : Files.readAllLines(SOURCE)) {
            if (line.startsWith("import")) {
                c.due("imports", line, "import java.util.Arrays;");
            }
        }
    }

    static void language_methodsAreShort(Checks c) throws IOException {
        List<String> lines = Files.readAllLines(SOURCE);
        int start = 0;
        for (int i = 0; i < lines.size(); i++) {
            String line = lines.get(i);
            if (line.matches(" {4}( {4})?\\w.*\\) (throws .*)?\\{") && !line.trim().startsWith("if")
                    && !line.trim().startsWith("for") && !line.trim().startsWith("switch")) {
                start = i;
            }
            if (line.equals("    }") || line.equals("        }")) {
                c.due("lines of the method at line " + (start + 1) + " up to " + (i + 1), i - start > 60, false);
                start = i;
            }
        }
    }

    static void language_classesAreSmall(Checks c) {
        c.due(classes().size() + " classes, twelve at most", classes().size() <= 12, true);
        for (Class<?> type : classes()) {
            int fields = 0;
            for (Field field : type.getDeclaredFields()) {
                fields += Modifier.isStatic(field.getModifiers()) ? 0 : 1;
            }
            c.due(type.getName() + " has " + fields + " fields, twenty at most", fields <= 20, true);
            for (Method method : type.getDeclaredMethods()) {
                c.due(method + " takes seven at most", method.getParameterCount() <= 7, true);
            }
        }
    }

    static void language_innerMethodsHaveNamesOfTheirOwn(Checks c) {
        Set<String> face = new TreeSet<>();
        for (Method method : OddRulers.class.getDeclaredMethods()) {
            if (Modifier.isPublic(method.getModifiers())) {
                face.add(method.getName());
            }
        }
        for (Class<?> inner : OddRulers.class.getDeclaredClasses()) {
            for (Method method : inner.getDeclaredMethods()) {
                c.due(method + " bears a name of the face", face.contains(method.getName()), false);
            }
        }
    }

    static void language_staticFieldsAreConstants(Checks c) {
        for (Class<?> type : classes()) {
            for (Field field : type.getDeclaredFields()) {
                int modifiers = field.getModifiers();
                if (Modifier.isStatic(modifiers)) {
                    c.due(field + " is final", Modifier.isFinal(modifiers), true);
                    c.due(field + " is a number", field.getType() == int.class || field.getType() == long.class, true);
                }
            }
        }
    }

    private static List<Class<?>> classes() {
        List<Class<?>> classes = new ArrayList<>(Arrays.asList(OddRulers.class.getDeclaredClasses()));
        classes.add(OddRulers.class);
        return classes;
    }
}
