import java.io.IOException;
import java.nio.file.Files;
import java.nio.file.Path;
import java.util.LinkedHashSet;
import java.util.Set;

/** The sentences of the document, each one as "section: sentence". */
final class Document {
    private static final Path FILE = Path.of("../shared/DOC.md");

    private final Set<String> sentences = new LinkedHashSet<>();
    private String section = "";
    private String part = "";

    static Set<String> sentences() throws IOException {
        Document document = new Document();
        String text = Files.readString(FILE).replaceAll("(?s)```java.*?```", "");
        for (String paragraph : text.split("\n\\s*\n|\n(?=- )")) {
            document.read(paragraph.trim().replaceAll("\\s+", " "));
        }
        return document.sentences;
    }

    private void read(String paragraph) {
        if (paragraph.startsWith("#")) {
            // "## Promise 2: addRibbon" is the section "Promise 2".
            section = paragraph.replaceAll("^#+ ", "").replaceAll(":.*", "");
            part = "";
            return;
        }
        String text = paragraph.replaceFirst("^- ", "");
        if (section.startsWith("Promise")) {
            text = text.replaceFirst("^`[^`]*\\(.*?\\)[^`]*`: ", "");
        } else if (text.startsWith("The constants: ")) {
            part = ", constants";
            text = text.substring("The constants: ".length());
        }
        for (String sentence : text.split("(?<=\\.) (?=[A-Z\"])")) {
            add(sentence);
        }
    }

    /** In the terms, a paragraph begins with its name: "Further rules. Dog ears that ..". */
    private void add(String sentence) {
        if (section.equals("Terms") && sentence.matches("[A-Z][a-z]+( [a-z]+)?\\.")) {
            part = ", " + sentence.substring(0, sentence.length() - 1);
        } else if (!sentence.isEmpty()) {
            sentences.add(section + part + ": " + sentence);
        }
    }
}
