import java.io.IOException;
import java.lang.reflect.Method;
import java.lang.reflect.Modifier;
import java.nio.file.Files;
import java.nio.file.Path;
import java.util.ArrayList;
import java.util.List;
import java.util.regex.Matcher;
import java.util.regex.Pattern;
import java.util.stream.Stream;

/** README.md says what is so: its example is run by its own commands, and so are its tests. Runs in the project's folder. */
public final class ReadmeTest {
    private static final Path README = Path.of("README.md");
    private static final Path TESTS = Path.of("src/test/java");
    private static final Path ALL_TESTS = Path.of(".ci/run");
    /** A call whose answer a comment behind it tells. */
    private static final Pattern ANSWER = Pattern.compile("( +(?:int \\w+ = )?)(index\\.\\w+\\(.*\\)); +// (-?\\d+): .*");
    private static final Pattern SHARED = Pattern.compile("\\.\\./shared/tests/\\w+\\.java");

    private final Checks checks = new Checks();
    private final String readme;
    private final Path folder;

    private ReadmeTest(String readme, Path folder) {
        this.readme = readme;
        this.folder = folder;
    }

    public static void main(String[] args) throws IOException, InterruptedException {
        Path folder = Files.createTempDirectory("readme");
        ReadmeTest test = new ReadmeTest(Files.readString(README), folder);
        try {
            test.look();
        } finally {
            remove(folder);
        }
        test.checks.end();
    }

    private void look() throws IOException, InterruptedException {
        example();
        wholeFace();
        allTests();
        oneTest();
        oneSharedTest();
    }

    private void example() throws IOException, InterruptedException {
        String source = blockWith("java", "class Example");
        String printed = blockWith("text", "");
        checks.due("the example", runExample(source), printed);
        checks.due("the example, each answer looked at", runExample(withAnswersLookedAt(source)), printed);
    }

    private String runExample(String source) throws IOException, InterruptedException {
        Path file = folder.resolve("Example.java");
        Files.writeString(file, source);
        return runWell(blockWith("sh", "Example.java").replace(" Example.java", " " + file));
    }

    /** The example, where each answer that a comment tells is compared, and printed when it is another one. */
    private String withAnswersLookedAt(String source) {
        StringBuilder looked = new StringBuilder();
        int answers = 0;
        for (String line : source.split("\n")) {
            Matcher told = ANSWER.matcher(line);
            if (told.matches()) {
                answers++;
                String call = told.group(2);
                looked.append(told.group(1)).append("due(\"").append(call.replace("\"", "\\\"")).append("\", ")
                    .append(call).append(", ").append(told.group(3)).append(");\n");
            } else {
                looked.append(line).append('\n');
                checks.due("a comment that begins with no answer: " + line, line.contains("//") ? 1 : 0, 0);
            }
        }
        if (answers == 0) {
            checks.fail("the example tells no answer");
        }
        looked.insert(looked.lastIndexOf("}"), "    static int due(String call, int got, int want) {\n"
            + "        if (got != want) System.out.println(call + \" answered \" + got + \", README says \" + want);\n"
            + "        return got;\n    }\n");
        return looked.toString();
    }

    private void wholeFace() {
        String source = blockWith("java", "class Example");
        for (Method m : IndexSort.class.getDeclaredMethods()) {
            if (Modifier.isPublic(m.getModifiers())) {
                checks.due("the example calls " + m.getName(), source.contains("index." + m.getName() + "(") ? 1 : 0, 1);
            }
        }
    }

    private void allTests() throws IOException {
        checks.due("the command of all tests", blockWith("sh", ALL_TESTS.toString()), ALL_TESTS + "\n");
        checks.due("it can be run", Files.isExecutable(ALL_TESTS) ? 1 : 0, 1);
        try (Stream<Path> files = Files.list(TESTS)) {
            for (Path file : files.toList()) {
                String name = file.getFileName().toString().replace(".java", "");
                checks.due("README.md names " + name, readme.contains(name) ? 1 : 0, 1);
            }
        }
    }

    private void oneTest() throws IOException, InterruptedException {
        checks.due("one test alone", runWell(blockWith("sh", "src/test/java/*.java")), "");
    }

    private void oneSharedTest() throws IOException, InterruptedException {
        String commands = blockWith("sh", "../shared/tests/");
        Matcher file = SHARED.matcher(commands);
        // Which tests are there is not ours to say: one that is gone fails nobody.
        if (file.find() && Files.exists(Path.of(file.group()))) {
            runWell(commands);
        }
    }

    /** What the commands print; they end with code 0, and what they build goes to a folder of its own. */
    private String runWell(String commands) throws IOException, InterruptedException {
        checks.due("commands that build elsewhere: " + commands, commands.contains(" build/") ? 0 : 1, 0);
        ProcessBuilder shell = new ProcessBuilder("sh", "-e", "-c", commands.replace(" build/", " " + folder + "/"));
        Process process = shell.redirectErrorStream(true).start();
        String printed = new String(process.getInputStream().readAllBytes());
        checks.due("the code of " + commands + printed, process.waitFor(), 0);
        return printed;
    }

    /** The only block of a kind that has this in it. */
    private String blockWith(String kind, String part) {
        List<String> found = new ArrayList<>();
        Matcher block = Pattern.compile("(?s)\n```" + kind + "\n(.*?\n)```\n").matcher(readme);
        while (block.find()) {
            if (block.group(1).contains(part)) {
                found.add(block.group(1));
            }
        }
        checks.due("blocks of " + kind + " with " + part, found.size(), 1);
        return found.isEmpty() ? "" : found.get(0);
    }

    private static void remove(Path folder) throws IOException {
        try (Stream<Path> files = Files.walk(folder)) {
            List<Path> all = new ArrayList<>(files.toList());
            for (int k = all.size() - 1; k >= 0; k--) {
                Files.delete(all.get(k));
            }
        }
    }
}
