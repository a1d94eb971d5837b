import java.io.IOException;
import java.nio.file.Files;
import java.nio.file.Path;
import java.util.ArrayList;
import java.util.Arrays;
import java.util.List;
import java.util.regex.Matcher;
import java.util.regex.Pattern;

/**
 * Every sentence of the document has a test: the tests quote the words that they check (Checks.words), and here each
 * section is looked through for words that no test quotes. Runs in the project's folder.
 */
public final class DocumentTest {
    private static final Path DOCUMENT = Path.of("../shared/DOC.md");
    private static final Path TESTS = Path.of("src/test/java");
    private static final Pattern QUOTE = Pattern.compile("\\bwords\\(\"((?:[^\"\\\\]|\\\\.)*)\"\\)");
    private static final String[] PROMISES = {"NewObject", "Entry", "Sign", "Page", "Range", "See", "Rule", "Run", "Row",
        "Locator", "Compare", "Told", "Style", "Print", "At"};
    private static final String[] TERMS = {"TermEntries", "TermOrder", "TermJoined", "TermPages", "TermGroups", "TermWarnings",
        "TermStyle", "TermOut", "TermRefused"};

    public static void main(String[] args) throws IOException {
        Checks c = new Checks();
        String document = Files.readString(DOCUMENT);
        covered(c, "Terms", section(document, "Terms"), TERMS);
        for (int k = 0; k < PROMISES.length; k++) {
            String name = "Promise " + (k + 1) + ":";
            String body = section(document, name);
            covered(c, name, body.substring(body.indexOf("`: ") + 3), PROMISES[k]);
        }
        c.end();
    }

    private static String section(String document, String name) {
        int begin = document.indexOf("\n## " + name);
        int end = document.indexOf("\n## ", begin + 1);
        String text = document.substring(document.indexOf('\n', begin + 1), end);
        return text.replaceAll("\\s+", " ").trim();
    }

    private static void covered(Checks c, String name, String body, String... tests) throws IOException {
        boolean[] quoted = new boolean[body.length()];
        for (String test : tests) {
            for (String quote : quotesOf(test)) {
                int at = body.indexOf(quote);
                if (at < 0) {
                    c.fail(test + "Test quotes what " + name + " does not say: " + quote);
                } else {
                    Arrays.fill(quoted, at, at + quote.length(), true);
                }
            }
        }
        StringBuilder left = new StringBuilder();
        for (int k = 0; k < quoted.length; k++) {
            left.append(quoted[k] ? ' ' : body.charAt(k));
        }
        if (left.toString().matches("(?s).*[\\w%|].*")) {
            c.fail("no test quotes this of " + name + ": " + left.toString().replaceAll(" +", " "));
        }
    }

    private static List<String> quotesOf(String test) throws IOException {
        List<String> quotes = new ArrayList<>();
        Matcher found = QUOTE.matcher(Files.readString(TESTS.resolve(test + "Test.java")));
        while (found.find()) {
            quotes.add(found.group(1).replace("\\\"", "\""));
        }
        return quotes;
    }
}
