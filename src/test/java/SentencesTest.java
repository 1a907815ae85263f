import java.io.IOException;
import java.nio.file.DirectoryStream;
import java.nio.file.Files;
import java.nio.file.Path;
import java.util.ArrayList;
import java.util.List;
import java.util.Map;
import java.util.TreeMap;
import java.util.regex.Matcher;
import java.util.regex.Pattern;

/**
 * That no sentence of 'What it is', of 'Terms' and of the promises was left out: every word of them
 * is quoted by a test, and every quote stands in the document, in its own section.
 */
public final class SentencesTest {
    private static final Path DOCUMENT = Path.of("../shared/DOC.md");
    private static final Path TESTS = Path.of("src/test/java");
    private static final int PROMISES = 15;

    private static final Pattern SECTION =
            Pattern.compile("^## ([^:\\n]*)[^\\n]*\\n(.*?)(?=^## |\\z)", Pattern.MULTILINE | Pattern.DOTALL);
    private static final Pattern QUOTE =
            Pattern.compile("Check\\.sentence\\((Check\\.\\w+|\\d+),\\s*((?:\"[^\"]*\"[\\s+]*)+)\\);");

    private record Quote(String test, String section, String text) {
    }

    public static void main(String[] args) throws IOException {
        Map<String, String> sections = sections();
        Map<String, StringBuilder> left = new TreeMap<>();
        for (int section = Check.WHAT_IT_IS; section <= PROMISES; section++) {
            String name = Check.sectionName(section);
            Check.due("the document has a section " + name, true, () -> sections.containsKey(name));
            left.put(name, new StringBuilder(sections.getOrDefault(name, "")));
        }
        for (Quote quote : quotes()) {
            int at = sections.getOrDefault(quote.section(), "").indexOf(quote.text());
            Check.due(quote + " stands in the document", true, () -> at >= 0);
            if (at >= 0) {
                blank(left.get(quote.section()), at, quote.text().length());
            }
        }
        left.forEach((name, text) ->
                Check.due("what no test quotes of " + name, "", () -> text.toString().trim()));
        Check.close();
    }

    private static void blank(StringBuilder text, int at, int length) {
        for (int k = at; k < at + length; k++) {
            text.setCharAt(k, ' ');
        }
    }

    /** The texts by section, without what the public face says and with single blanks. */
    private static Map<String, String> sections() throws IOException {
        Map<String, String> sections = new TreeMap<>();
        Matcher matcher = SECTION.matcher(Files.readString(DOCUMENT));
        while (matcher.find()) {
            String text = matcher.group(2).replaceAll("```(text)?", " ").replaceAll("`[^`]*`: ", " ");
            sections.put(matcher.group(1), text.replaceAll("\\s+", " "));
        }
        return sections;
    }

    private static List<Quote> quotes() throws IOException {
        List<Quote> quotes = new ArrayList<>();
        try (DirectoryStream<Path> files = Files.newDirectoryStream(TESTS, "*Test.java")) {
            for (Path file : files) {
                Matcher matcher = QUOTE.matcher(Files.readString(file));
                while (matcher.find()) {
                    String text = matcher.group(2).trim().replaceAll("\"\\s*\\+\\s*\"", "");
                    quotes.add(new Quote(file.getFileName().toString(), Check.sectionName(section(matcher.group(1))),
                            text.substring(1, text.length() - 1)));
                }
            }
        }
        return quotes;
    }

    private static int section(String written) {
        return switch (written) {
            case "Check.WHAT_IT_IS" -> Check.WHAT_IT_IS;
            case "Check.TERMS" -> Check.TERMS;
            default -> Integer.parseInt(written);
        };
    }
}
