import java.io.IOException;
import java.nio.file.DirectoryStream;
import java.nio.file.Files;
import java.nio.file.Path;
import java.util.ArrayList;
import java.util.List;
import java.util.regex.Matcher;
import java.util.regex.Pattern;

/**
 * What the tests of single sentences quote stands in the document, and no word of a promise or of the terms is
 * without a test that quotes it: a sentence that is changed or added there shows up here.
 */
public final class SentencesTest {
    private static final Path DOCUMENT = Path.of("../shared/DOC.md");
    private static final Path TESTS = Path.of("src/test/java");
    private static final Pattern QUOTE = Pattern.compile("sentence\\(\"([^\"]*)\"\\)");
    private static final Pattern SECTION = Pattern.compile("## (Terms|Promise (\\d+)[^\n]*)\n(.*?)(?=\n## |\\z)", Pattern.DOTALL);
    /** A gap in a quote; both sides of it stand in the document. */
    private static final String GAP = " \\.\\. ";

    public static void main(String[] args) throws IOException {
        if (!Files.exists(DOCUMENT)) {
            System.out.println("SentencesTest: there is no " + DOCUMENT + " to compare with");
            return;
        }
        Checks c = new Checks("SentencesTest");
        String document = Files.readString(DOCUMENT);
        quotesStandInTheDocument(c, onOneLine(document));
        int promises = 0;
        Matcher section = SECTION.matcher(document);
        while (section.find()) {
            String number = section.group(2);
            promises += number == null ? 0 : 1;
            String tests = number == null ? "Edges" : String.format("Edges%02d", Integer.parseInt(number));
            String left = left(section.group(3), tests);
            c.due(section.group(1) + ": letters without a test, \"" + left + "\",", 0, left.length());
        }
        c.due("promises", 21, promises);
        c.end();
    }

    private static void quotesStandInTheDocument(Checks c, String document) throws IOException {
        for (String quote : quotes("Edges")) {
            for (String part : quote.split(GAP)) {
                c.due("\"" + part + "\" stands in the document", 1, document.contains(part) ? 1 : 0);
            }
        }
    }

    /** What is left of a section without the words that these tests quote, if there is more than marks. */
    private static String left(String text, String tests) throws IOException {
        String section = onOneLine(text.replace("```text", "").replace("```", "").replaceFirst("^\\s*`[^`]*`:", ""));
        boolean[] quoted = new boolean[section.length()];
        for (String quote : quotes(tests)) {
            for (String part : quote.split(GAP)) {
                mark(section, part, quoted);
            }
        }
        StringBuilder left = new StringBuilder();
        for (int at = 0; at < quoted.length; at++) {
            left.append(quoted[at] ? ' ' : section.charAt(at));
        }
        String words = onOneLine(left.toString());
        return words.chars().anyMatch(Character::isLetterOrDigit) ? words : "";
    }

    private static void mark(String section, String part, boolean[] quoted) {
        for (int at = section.indexOf(part); at >= 0; at = section.indexOf(part, at + 1)) {
            for (int i = at; i < at + part.length(); i++) {
                quoted[i] = true;
            }
        }
    }

    private static List<String> quotes(String tests) throws IOException {
        List<String> quotes = new ArrayList<>();
        try (DirectoryStream<Path> files = Files.newDirectoryStream(TESTS, tests + "*.java")) {
            for (Path file : files) {
                Matcher quote = QUOTE.matcher(Files.readString(file));
                while (quote.find()) {
                    quotes.add(quote.group(1));
                }
            }
        }
        return quotes;
    }

    private static String onOneLine(String text) {
        return text.replaceAll("\\s+", " ").trim();
    }
}
