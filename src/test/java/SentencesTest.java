import java.io.IOException;
import java.nio.file.DirectoryStream;
import java.nio.file.Files;
import java.nio.file.Path;
import java.util.ArrayList;
import java.util.List;
import java.util.Map;
import java.util.TreeMap;
import java.util.regex.Matcher;
import java.util.regex.Pattern;

/**
 * That no sentence of 'Terms' and of the promises was left out: every word of them is quoted by a
 * test, and every quote stands in the document, in its own section.
 */
public final class SentencesTest {
    private static final Path DOCUMENT = Path.of("../shared/DOC.md");
    private static final Path TESTS = Path.of("src/test/java");
    private static final int PROMISES = 15;

    private static final Pattern SECTION =
            Pattern.compile("^## (Terms|Promise (\\d+): [^\\n]*)\\n(.*?)(?=^## |\\z)", Pattern.MULTILINE | Pattern.DOTALL);
    private static final Pattern QUOTE =
            Pattern.compile("Check\\.sentence\\((Check\\.TERMS|\\d+),\\s*((?:\"[^\"]*\"[\\s+]*)+)\\);");

    private record Quote(String test, int promise, String text) {
    }

    public static void main(String[] args) throws IOException {
        Map<Integer, String> sections = sections();
        Check.due("the sections", PROMISES + 1, sections::size);
        List<Quote> quotes = quotes();
        Map<Integer, StringBuilder> left = new TreeMap<>();
        sections.forEach((promise, text) -> left.put(promise, new StringBuilder(text)));
        for (Quote quote : quotes) {
            String section = sections.getOrDefault(quote.promise(), "");
            int at = section.indexOf(quote.text());
            Check.due(quote + " stands in the document", true, () -> at >= 0);
            if (at >= 0) {
                blank(left.get(quote.promise()), at, quote.text().length());
            }
        }
        left.forEach((promise, text) ->
                Check.due("what no test quotes of promise " + promise, "", () -> text.toString().trim()));
        Check.close();
    }

    private static void blank(StringBuilder text, int at, int length) {
        for (int k = at; k < at + length; k++) {
            text.setCharAt(k, ' ');
        }
    }

    /** The texts by promise, 'Terms' as 0, without what the public face says and with single blanks. */
    private static Map<Integer, String> sections() throws IOException {
        Map<Integer, String> sections = new TreeMap<>();
        Matcher matcher = SECTION.matcher(Files.readString(DOCUMENT));
        while (matcher.find()) {
            int promise = matcher.group(2) == null ? Check.TERMS : Integer.parseInt(matcher.group(2));
            String text = matcher.group(3).replaceAll("```(text)?", " ").replaceAll("`[^`]*`: ", " ");
            sections.put(promise, text.replaceAll("\\s+", " "));
        }
        return sections;
    }

    private static List<Quote> quotes() throws IOException {
        List<Quote> quotes = new ArrayList<>();
        try (DirectoryStream<Path> files = Files.newDirectoryStream(TESTS, "*Test.java")) {
            for (Path file : files) {
                Matcher matcher = QUOTE.matcher(Files.readString(file));
                while (matcher.find()) {
                    int promise = matcher.group(1).startsWith("C") ? Check.TERMS : Integer.parseInt(matcher.group(1));
                    String text = matcher.group(2).trim().replaceAll("\"\\s*\\+\\s*\"", "");
                    quotes.add(new Quote(file.getFileName().toString(), promise, text.substring(1, text.length() - 1)));
                }
            }
        }
        return quotes;
    }
}
