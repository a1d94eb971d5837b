import java.io.IOException;
import java.nio.file.Files;
import java.nio.file.Path;
import java.util.List;
import java.util.regex.Matcher;
import java.util.regex.Pattern;

/** What can be seen in the source of the rules of LANGUAGE.md; runs in the project's folder. */
public final class RulesTest {
    private static final Pattern FORBIDDEN = Pattern.compile("->|::|\\b(finally|synchronized|assert|protected|package|hashCode"
        + "|\\w+Exact|System\\.(?!arraycopy)\\w+|Thread|Random|java\\.(?!util)\\w+|NaN|getMessage|printStackTrace)\\b");
    private static final Pattern IMPORT = Pattern.compile("import java\\.util\\.(ArrayList|Arrays|Iterator|List|NoSuchElementException);");
    /** The classes that are listed there, and the one that the document names for at. */
    private static final Pattern THROW = Pattern.compile("\\bthrow new (IllegalState|IllegalArgument|IndexOutOfBounds|Arithmetic"
        + "|UnsupportedOperation|NoSuchElement|Runtime|ArrayIndexOutOfBounds)Exception\\((\"[^\"]*\")?\\);");
    private static final Pattern CAUGHT = Pattern.compile("\\bcatch \\((final )?(Exception|Throwable|RuntimeException|NullPointer\\w*"
        + "|ArrayIndex\\w*|IndexOutOf\\w*|Arithmetic\\w*|ClassCast\\w*|NegativeArray\\w*|ArrayStore\\w*)\\b");
    private static final Pattern BLOCK = Pattern.compile("( {4}| {8})(?!if|for|while|switch|\\}).*\\{");
    private static final int LONGEST_METHOD = 60;

    public static void main(String[] args) throws IOException {
        Checks c = new Checks();
        List<String> lines = Files.readAllLines(Path.of("src/main/java/IndexSort.java"));
        for (int k = 0; k < lines.size(); k++) {
            String where = "line " + (k + 1) + ": ";
            String code = lines.get(k).replaceAll("^\\s*(//|/?\\*).*", "");
            Matcher forbidden = FORBIDDEN.matcher(code);
            if (forbidden.find()) {
                c.fail(where + "has " + forbidden.group());
            }
            if (!lines.get(k).chars().allMatch(sign -> sign < 128)) {
                c.fail(where + "has a sign beyond 127");
            }
            if (code.contains("import") && !IMPORT.matcher(code).matches()) {
                c.fail(where + "imports what is not listed");
            }
            if (code.contains("throw ") && !THROW.matcher(code).find()) {
                c.fail(where + "throws in another form");
            }
            if (CAUGHT.matcher(code).find()) {
                c.fail(where + "catches what the machine throws");
            }
            if (code.contains("(") && BLOCK.matcher(code).matches() && lengthOf(lines, k) > LONGEST_METHOD) {
                c.fail(where + "begins too long a method");
            }
        }
        c.end();
    }

    private static int lengthOf(List<String> lines, int begin) {
        String end = lines.get(begin).replaceAll("\\S.*", "") + "}";
        int k = begin;
        while (k < lines.size() && !lines.get(k).equals(end)) {
            k++;
        }
        return k - begin + 1;
    }
}
