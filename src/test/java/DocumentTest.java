import java.io.IOException;
import java.lang.reflect.Method;
import java.nio.file.Files;
import java.nio.file.Path;
import java.util.ArrayList;
import java.util.Arrays;
import java.util.List;
import java.util.Map;
import java.util.TreeMap;

/** Each sentence of the document has a test that says it, and what the tests say stands in the document. */
final class DocumentTest {
    private static final Path DOCUMENT = Path.of("..", "shared", "DOC.md");
    private static final String INTRODUCTION = "What it is";
    private static final String TERMS = "Terms";

    private DocumentTest() {
    }

    static void document_hasTheSections(Checks c) throws IOException {
        Map<String, String> sections = sections();
        c.due("tests that quote", quoting().isEmpty(), false);
        if (sections.isEmpty()) {
            System.out.println("    there is no " + DOCUMENT + ": the quotes are compared with nothing");
            return;
        }
        c.due(INTRODUCTION, sections.containsKey(INTRODUCTION), true);
        c.due(TERMS, sections.containsKey(TERMS), true);
        for (int promise = 1; promise <= 27; promise++) {
            String name = String.format("promise%02d", promise);
            c.due(name, sections.containsKey(name), true);
        }
    }

    static void document_quotesStandInIt(Checks c) throws IOException {
        Map<String, String> sections = sections();
        c.due("tests that quote", quoting().isEmpty(), false);
        for (Method test : quoting()) {
            String around = sections.getOrDefault(promise(test), "") + sections.getOrDefault(TERMS, "")
                    + sections.getOrDefault(INTRODUCTION, "");
            for (String quote : test.getAnnotation(Says.class).value()) {
                c.due(test.getName() + " says '" + quote + "'", sections.isEmpty() || around.contains(quote), true);
            }
        }
    }

    static void document_eachSentenceHasATest(Checks c) throws IOException {
        Map<String, String> sections = sections();
        c.due("tests that quote", quoting().isEmpty(), false);
        for (String section : sections.keySet()) {
            if (section.equals(TERMS) || section.startsWith("promise")) {
                String left = sections.get(section);
                for (Method test : quoting()) {
                    if (section.equals(TERMS) || section.equals(promise(test))) {
                        left = without(left, test.getAnnotation(Says.class).value(), sections.get(section));
                    }
                }
                c.due(section + " without a test", left.replaceAll("[#\\W]+", " ").trim(), "");
            }
        }
    }

    /** The section with # in place of what the quotes say. */
    private static String without(String left, String[] quotes, String section) {
        StringBuilder result = new StringBuilder(left);
        for (String quote : quotes) {
            for (int at = section.indexOf(quote); at >= 0; at = section.indexOf(quote, at + 1)) {
                result.replace(at, at + quote.length(), "#".repeat(quote.length()));
            }
        }
        return result.toString();
    }

    private static List<Method> quoting() {
        List<Method> quoting = new ArrayList<>();
        for (Class<?> tests : AllTests.TESTS) {
            for (Method method : tests.getDeclaredMethods()) {
                if (method.isAnnotationPresent(Says.class)) {
                    quoting.add(method);
                }
            }
        }
        return quoting;
    }

    private static String promise(Method test) {
        return test.getName().split("_")[0];
    }

    /** The sections, each in one line, without what only lays them out; none without the document. */
    private static Map<String, String> sections() throws IOException {
        Map<String, String> sections = new TreeMap<>();
        if (!Files.isReadable(DOCUMENT)) {
            return sections;
        }
        for (String section : Files.readString(DOCUMENT).split("(?m)^## ")) {
            String[] lines = section.split("\n");
            StringBuilder text = new StringBuilder();
            for (String line : Arrays.copyOfRange(lines, 1, lines.length)) {
                String bare = line.trim().replaceFirst("^- ", "").replaceFirst("^`(int )?\\w+\\(.*?\\).*?`: ", "");
                if (!bare.isEmpty() && !bare.matches("[A-Z ]+")) {
                    text.append(bare).append(' ');
                }
            }
            sections.put(key(lines[0]), text.toString());
        }
        return sections;
    }

    private static String key(String heading) {
        return heading.startsWith("Promise ")
                ? String.format("promise%02d", Integer.parseInt(heading.split("[ :]")[1])) : heading;
    }
}
