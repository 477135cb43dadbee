import java.io.IOException;
import java.nio.file.Files;
import java.nio.file.Path;
import java.util.LinkedHashMap;
import java.util.Map;

/** The document by its sections: "What it is", "I" to "IV" of its terms, "Promise 1" to "Promise 42". */
final class Document {
    private static final Path FILE = Path.of("../shared/DOC.md");

    private Document() {
    }

    static Map<String, String> sections() {
        Map<String, String> sections = new LinkedHashMap<>();
        for (String part : wholeText().split("(?m)^## ")) {
            String title = part.lines().findFirst().orElse("");
            String body = part.substring(title.length());
            if (title.equals("Terms")) {
                addTerms(sections, body);
            } else {
                sections.put(title.replaceAll("^(Promise \\d+):.*", "$1"), plain(body));
            }
        }
        return sections;
    }

    private static void addTerms(Map<String, String> sections, String body) {
        String[] numbers = {"I", "II", "III", "IV"};
        String[] parts = body.split("==== I[IV]*\\.");
        for (int i = 0; i < parts.length && i < numbers.length; i++) {
            sections.put(numbers[i], plain(parts[i]));
        }
    }

    /** One blank between words, no marks of a block of text. */
    static String plain(String text) {
        return text.replace("```text", " ").replace("```", " ").replaceAll("\\s+", " ").trim();
    }

    private static String wholeText() {
        try {
            return Files.readString(FILE);
        } catch (IOException e) {
            throw new IllegalStateException("the document is not at " + FILE, e);
        }
    }
}
