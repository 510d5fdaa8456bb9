import java.io.IOException;
import java.nio.file.Files;
import java.nio.file.Path;
import java.util.Map;
import java.util.TreeMap;

/**
 * The sentences of the document, each with a test of its own. What a test quotes must stand in the
 * document, and of the terms and the promises nothing may be left that no test quotes.
 */
final class Sentences {
    private static final Path DOCUMENT = Path.of("../shared/DOC.md");
    private static final Map<String, String> WITHOUT_TEST = sections();

    private Sentences() {}

    static void test(String section, String sentence, Runnable test) {
        Checks.tellWith(section + ", \"" + sentence + "\": ");
        int before = Checks.made();
        test.run();
        Checks.due("its test asks something", true, Checks.made() > before);
        if (!WITHOUT_TEST.isEmpty()) {
            String text = WITHOUT_TEST.getOrDefault(section, "");
            Checks.due("it stands in the document", true, text.contains(sentence));
            WITHOUT_TEST.put(section, text.replace(sentence, " "));
        }
        Checks.tellWith("");
    }

    static void requireAll() {
        if (WITHOUT_TEST.isEmpty()) {
            System.out.println("  no " + DOCUMENT + " here: what is quoted was not compared");
        }
        for (Map.Entry<String, String> section : WITHOUT_TEST.entrySet()) {
            String name = section.getKey();
            if (name.equals("Terms") || name.startsWith("Promise ")) {
                Checks.due("sentences without a test in " + name, "", section.getValue().strip());
            }
        }
    }

    /** The text of each section, without what the face has said already. */
    private static Map<String, String> sections() {
        Map<String, StringBuilder> texts = new TreeMap<>();
        StringBuilder text = new StringBuilder();
        for (String line : document().split("\n")) {
            if (line.startsWith("## ")) {
                text = new StringBuilder();
                texts.put(line.substring(3).strip(), text);
            } else if (!line.startsWith("```")) {
                text.append(' ').append(line);
            }
        }
        Map<String, String> sections = new TreeMap<>();
        for (Map.Entry<String, StringBuilder> section : texts.entrySet()) {
            String plain = section.getValue().toString().replaceAll("\\s+", " ").strip();
            sections.put(section.getKey(), plain.replaceFirst("^`[^`]*`: ", ""));
        }
        return sections;
    }

    private static String document() {
        try {
            return Files.exists(DOCUMENT) ? Files.readString(DOCUMENT) : "";
        } catch (IOException e) {
            throw new IllegalStateException(e);
        }
    }
}
