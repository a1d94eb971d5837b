import java.io.IOException;
import java.lang.reflect.Constructor;
import java.lang.reflect.Executable;
import java.lang.reflect.Field;
import java.lang.reflect.Method;
import java.lang.reflect.Modifier;
import java.nio.file.Files;
import java.nio.file.Path;
import java.util.ArrayList;
import java.util.List;
import java.util.Set;
import java.util.regex.Matcher;
import java.util.regex.Pattern;

/** What can be seen of the rules of LANGUAGE.md in the source and in the compiled class; runs in the project's folder. */
public final class RulesTest {
    private static final Pattern FORBIDDEN = Pattern.compile("->|::|\\b(finally|synchronized|assert|protected|package|hashCode"
        + "|toString|\\w+Exact|System\\.(?!arraycopy)\\w+|Thread|Random|java\\.(?!util)\\w+|NaN|getMessage|printStackTrace)\\b");
    private static final Pattern IMPORT = Pattern.compile("import java\\.util\\.(ArrayList|Arrays|Iterator|List|NoSuchElementException);");
    /** The classes that are listed there, and the one that the document names for at. */
    private static final Pattern THROW = Pattern.compile("\\bthrow new (IllegalState|IllegalArgument|IndexOutOfBounds|Arithmetic"
        + "|UnsupportedOperation|NoSuchElement|Runtime|ArrayIndexOutOfBounds)Exception\\((\"[^\"]*\")?\\);");
    private static final Pattern CAUGHT = Pattern.compile("\\bcatch \\((final )?(Exception|Throwable|RuntimeException|NullPointer\\w*"
        + "|ArrayIndex\\w*|IndexOutOf\\w*|Arithmetic\\w*|ClassCast\\w*|NegativeArray\\w*|ArrayStore\\w*)\\b");
    private static final Pattern BLOCK = Pattern.compile("( {4}| {8})(?!if|for|while|switch|\\}).*\\{");
    private static final Pattern STATIC_BLOCK = Pattern.compile("\\s*static \\{.*");
    private static final Pattern LIBRARY = Pattern.compile("\\b(Math|Arrays|System|Integer|Long|List)\\.(\\w+)");
    private static final Set<String> LISTED = Set.of("Math.max", "Math.min", "Math.abs", "Math.floorDiv", "Math.floorMod",
        "Arrays.copyOf", "Arrays.copyOfRange", "Arrays.fill", "System.arraycopy", "Integer.compare", "Integer.max", "Integer.min");
    /** What a constant, a field or a parameter may be. */
    private static final Pattern TYPE = Pattern.compile("(int|long|short|byte|char|boolean)(\\[\\])?|String|StringBuilder"
        + "|IndexSort(\\$\\w+)?(\\[\\])?|void");
    private static final int LONGEST_METHOD = 60;
    private static final int MOST_PARAMETERS = 7;
    private static final int MOST_CLASSES = 12;
    private static final int MOST_FIELDS = 20;

    public static void main(String[] args) throws IOException {
        Checks c = new Checks();
        source(c, Files.readAllLines(Path.of("src/main/java/IndexSort.java")));
        classes(c);
        c.end();
    }

    private static void source(Checks c, List<String> lines) {
        for (int k = 0; k < lines.size(); k++) {
            String where = "line " + (k + 1) + ": ";
            String code = lines.get(k).replaceAll("^\\s*(//|/?\\*).*", "");
            Matcher forbidden = FORBIDDEN.matcher(code);
            if (forbidden.find()) {
                c.fail(where + "has " + forbidden.group());
            }
            if (!lines.get(k).chars().allMatch(sign -> sign < 128)) {
                c.fail(where + "has a sign beyond 127");
            }
            if (code.contains("import") && !IMPORT.matcher(code).matches()) {
                c.fail(where + "imports what is not listed");
            }
            if (code.contains("throw ") && !THROW.matcher(code).find()) {
                c.fail(where + "throws in another form");
            }
            if (CAUGHT.matcher(code).find()) {
                c.fail(where + "catches what the machine throws");
            }
            if (STATIC_BLOCK.matcher(code).matches()) {
                c.fail(where + "begins a static block");
            }
            if (code.contains("(") && BLOCK.matcher(code).matches() && lengthOf(lines, k) > LONGEST_METHOD) {
                c.fail(where + "begins too long a method");
            }
            for (Matcher library = LIBRARY.matcher(code.replaceAll("^import .*", "")); library.find(); ) {
                c.due(where + "a call that is not listed, " + library.group(), LISTED.contains(library.group()) ? 1 : 0, 1);
            }
        }
    }

    private static int lengthOf(List<String> lines, int begin) {
        String end = lines.get(begin).replaceAll("\\S.*", "") + "}";
        int k = begin;
        while (k < lines.size() && !lines.get(k).equals(end)) {
            k++;
        }
        return k - begin + 1;
    }

    private static void classes(Checks c) {
        List<Class<?>> all = new ArrayList<>(List.of(IndexSort.class));
        for (int k = 0; k < all.size() && all.size() < 100; k++) {
            all.addAll(List.of(all.get(k).getDeclaredClasses()));
            members(c, all.get(k));
        }
        if (all.size() > MOST_CLASSES) {
            c.fail(all.size() + " classes, the most are " + MOST_CLASSES);
        }
    }

    private static void members(Checks c, Class<?> of) {
        int fields = 0;
        for (Field f : of.getDeclaredFields()) {
            boolean isConstant = Modifier.isStatic(f.getModifiers());
            fields += isConstant ? 0 : 1;
            c.due(f + " is static and not final", isConstant && !Modifier.isFinal(f.getModifiers()) ? 1 : 0, 0);
            type(c, f.toString(), f.getType());
        }
        if (fields > MOST_FIELDS) {
            c.fail(of + " has " + fields + " fields, the most are " + MOST_FIELDS);
        }
        for (Method m : of.getDeclaredMethods()) {
            type(c, m.toString(), m.getReturnType());
            parameters(c, m);
        }
        for (Constructor<?> made : of.getDeclaredConstructors()) {
            parameters(c, made);
        }
    }

    private static void parameters(Checks c, Executable e) {
        if (e.getParameterCount() > MOST_PARAMETERS) {
            c.fail(e + " takes more than " + MOST_PARAMETERS + " parameters");
        }
        for (Class<?> type : e.getParameterTypes()) {
            type(c, e.toString(), type);
        }
    }

    private static void type(Checks c, String where, Class<?> type) {
        c.due("a type that is not listed, in " + where, TYPE.matcher(type.getTypeName()).matches() ? 1 : 0, 1);
    }
}
