import java.io.IOException;
import java.nio.file.Files;
import java.nio.file.Path;
import java.util.List;

/** Some rules of LANGUAGE.md that can be seen in the source's lines. */
final class LanguageTest {
    private static final Path SOURCE = Path.of("src", "main", "java", "OddRulers.java");
    private static final String[] NOT_USED = {
        "->", "::", "catch", "finally", "synchronized", "assert ", "instanceof", "var ", "static {", "Exact(",
        "System.", "Random", "Thread", "Object", "\" +", "+ \"", "package ", "package\t",
    };

    private LanguageTest() {
    }

    static void language_wordsThatAreNotUsed(Checks c) throws IOException {
        List<String> lines = Files.readAllLines(SOURCE);
        for (int i = 0; i < lines.size(); i++) {
            for (String word : NOT_USED) {
                c.due("line " + (i + 1) + " has " + word, lines.get(i).contains(word), false);
            }
            c.due("line " + (i + 1) + " is long", lines.get(i).length() > 120, false);
            c.due("line " + (i + 1) + " has other signs than 1 to 127",
                    lines.get(i).chars().allMatch(sign -> sign >= 1 && sign <= 127), true);
        }
    }

    static void language_imports(Checks c) throws IOException {
        for (String line : Files.readAllLines(SOURCE)) {
            if (line.startsWith("import")) {
                c.due("imports", line, "import java.util.Arrays;");
            }
        }
    }

    static void language_methodsAreShort(Checks c) throws IOException {
        List<String> lines = Files.readAllLines(SOURCE);
        int start = 0;
        for (int i = 0; i < lines.size(); i++) {
            String line = lines.get(i);
            if (line.matches(" {4}( {4})?\\w.*\\) (throws .*)?\\{") && !line.trim().startsWith("if")
                    && !line.trim().startsWith("for") && !line.trim().startsWith("switch")) {
                start = i;
            }
            if (line.equals("    }") || line.equals("        }")) {
                c.due("lines of the method at line " + (start + 1) + " up to " + (i + 1), i - start > 60, false);
                start = i;
            }
        }
    }
}
