import java.io.IOException;
import java.nio.file.DirectoryStream;
import java.nio.file.Files;
import java.nio.file.Path;
import java.util.Map;
import java.util.regex.Matcher;
import java.util.regex.Pattern;

/**
 * No sentence of the document's terms and promises is without a test: each word there is quoted by one of the
 * bounds' tests. That a quote stands in the document just so is looked at where the test runs.
 */
public final class CoverTest {
    private static final String TEXT = "\"[^\"]*\"";
    private static final Pattern QUOTE = Pattern.compile(
            "sentence\\(\"([^\"]+)\",\\s*(" + TEXT + "(?:\\s*\\+\\s*" + TEXT + ")*)\\);");

    private static int wrong = 0;

    public static void main(String[] args) throws IOException {
        Map<String, String> left = Document.sections();
        left.keySet().removeIf(section -> !section.matches("I|II|III|IV|Promise \\d+"));
        complainIf(left.size() != 4 + 42, "there are " + left.size() + " sections, due are four and 42");
        left.replaceAll((section, words) -> words.replaceFirst("^`[^`]*`: ", ""));
        int quotes = strikeOut(left);
        left.forEach((section, words) -> complainIf(words.matches("(?s).*[A-Za-z0-9].*"),
                section + " has words that no test quotes: " + words.replaceAll("~+", "~")));
        System.out.println(quotes + " quotes, " + wrong + " things that are not as due");
        if (wrong != 0) {
            System.exit(1);
        }
    }

    private static void complainIf(boolean bad, String what) {
        if (bad) {
            wrong++;
            System.out.println(what);
        }
    }

    /** Strikes out all that tests quote; a quote that stands twice in a section is struck out at its first place. */
    private static int strikeOut(Map<String, String> left) throws IOException {
        Map<String, String> whole = Document.sections();
        int quotes = 0;
        try (DirectoryStream<Path> files = Files.newDirectoryStream(Path.of("src/test/java"), "*BoundsTest.java")) {
            for (Path file : files) {
                Matcher matcher = QUOTE.matcher(Files.readString(file));
                while (matcher.find()) {
                    quotes++;
                    strikeOutOne(left, whole, matcher.group(1), joined(matcher.group(2)));
                }
            }
        }
        return quotes;
    }

    private static void strikeOutOne(Map<String, String> left, Map<String, String> whole, String section, String words) {
        if (!left.containsKey(section)) {
            return;
        }
        String rest = left.get(section);
        int start = whole.get(section).replaceFirst("^`[^`]*`: ", "").indexOf(words);
        complainIf(start < 0, section + " has no such words: " + words);
        if (start >= 0) {
            left.put(section, rest.substring(0, start) + "~".repeat(words.length()) + rest.substring(start + words.length()));
        }
    }

    private static String joined(String texts) {
        Matcher matcher = Pattern.compile(TEXT).matcher(texts);
        StringBuilder all = new StringBuilder();
        while (matcher.find()) {
            all.append(matcher.group(), 1, matcher.group().length() - 1);
        }
        return all.toString();
    }
}
