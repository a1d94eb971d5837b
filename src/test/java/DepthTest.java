import java.io.PrintWriter;
import java.io.StringWriter;
import java.net.URISyntaxException;
import java.nio.file.Path;
import java.util.ArrayList;
import java.util.HashMap;
import java.util.List;
import java.util.Map;
import java.util.Optional;
import java.util.Set;
import java.util.TreeSet;
import java.util.regex.Matcher;
import java.util.regex.Pattern;
import java.util.spi.ToolProvider;

/** Rules 8 and 11 of LANGUAGE.md, by the compiled class: which methods call themselves, and how deep the others go. */
public final class DepthTest {
    private static final int DEEPEST = 8;
    /** It carries its depth as an argument, and goes no deeper than there are levels. */
    private static final Set<String> RECURSIVE = Set.of("IndexSort.addRowsUnder:(II)V");
    private static final Pattern CLASS = Pattern.compile("(?:\\w+ )*class ([\\w$]+) .*");
    private static final Pattern METHOD = Pattern.compile("  (?:\\w+ )*(?:[\\w$\\[\\].]+ )?([\\w$]+)\\(.*\\).*;");
    private static final Pattern DESCRIPTOR = Pattern.compile("    descriptor: (\\S+)");
    private static final Pattern CALL = Pattern.compile(".* invoke\\w+ .*// (?:Interface)?Method (?:([\\w$/]+)\\.)?\"?([\\w$<>]+)\"?:(\\S+).*");

    private final Map<String, Set<String>> calls = new HashMap<>();
    private final List<String> open = new ArrayList<>();
    private final Set<String> recursive = new TreeSet<>();

    public static void main(String[] args) throws URISyntaxException {
        Optional<ToolProvider> javap = ToolProvider.findFirst("javap");
        if (javap.isEmpty()) {
            System.out.println("this Java can't show its classes: nothing is looked at");
            return;
        }
        new DepthTest().look(javap.get());
    }

    private void look(ToolProvider javap) throws URISyntaxException {
        Checks c = new Checks();
        List<String> names = new ArrayList<>(List.of("IndexSort"));
        for (Class<?> inside : IndexSort.class.getDeclaredClasses()) {
            names.add(inside.getName());
        }
        for (String name : names) {
            read(shown(javap, name));
        }
        int deepest = 0;
        for (String method : calls.keySet()) {
            deepest = Math.max(deepest, depth(method));
        }
        c.due("methods were found", calls.containsKey("IndexSort.print:()I") ? 1 : 0, 1);
        c.due("methods that call themselves", recursive.toString(), new TreeSet<>(RECURSIVE).toString());
        if (deepest < 3 || deepest > DEEPEST) {
            c.fail("calls go " + deepest + " deep, the most is " + DEEPEST);
        }
        c.end();
    }

    private static String shown(ToolProvider javap, String name) throws URISyntaxException {
        Path folder = Path.of(IndexSort.class.getProtectionDomain().getCodeSource().getLocation().toURI());
        StringWriter text = new StringWriter();
        PrintWriter out = new PrintWriter(text);
        javap.run(out, out, "-c", "-p", "-s", folder.resolve(name + ".class").toString());
        return text.toString();
    }

    private void read(String shown) {
        String owner = "";
        String name = "";
        Set<String> called = new TreeSet<>();
        for (String line : shown.split("\n")) {
            Matcher m = CLASS.matcher(line);
            if (m.matches()) {
                owner = m.group(1);
            }
            m = METHOD.matcher(line);
            if (m.matches()) {
                name = m.group(1).equals(owner) ? "<init>" : m.group(1);
            }
            m = DESCRIPTOR.matcher(line);
            if (m.matches() && m.group(1).startsWith("(")) {
                called = new TreeSet<>();
                calls.put(owner + "." + name + ":" + m.group(1), called);
            }
            m = CALL.matcher(line);
            if (m.matches()) {
                called.add((m.group(1) == null ? owner : m.group(1)) + "." + m.group(2) + ":" + m.group(3));
            }
        }
    }

    /** How many methods stand open at once at most, of the class's own; a call of one that is open is a recursion. */
    private int depth(String method) {
        if (open.contains(method)) {
            recursive.addAll(open.subList(open.indexOf(method), open.size()));
            return 0;
        }
        if (!calls.containsKey(method)) {
            return 0;
        }
        open.add(method);
        int below = 0;
        for (String called : calls.get(method)) {
            below = Math.max(below, depth(called));
        }
        open.remove(open.size() - 1);
        return 1 + below;
    }
}
