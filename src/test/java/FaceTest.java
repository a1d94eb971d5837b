import java.io.IOException;
import java.lang.reflect.Executable;
import java.lang.reflect.Field;
import java.lang.reflect.Member;
import java.lang.reflect.Method;
import java.lang.reflect.Modifier;
import java.nio.file.Files;
import java.nio.file.Path;
import java.util.Set;
import java.util.TreeSet;

/** The public face is the document's, to the word, and nothing else of the class can be seen (rule 1 of LANGUAGE.md). */
public final class FaceTest {
    private static final Path DOCUMENT = Path.of("../shared/DOC.md");
    private static final Path SOURCE = Path.of("src/main/java/IndexSort.java");
    private static final int METHODS = 14;

    private final Checks checks = new Checks();
    private final Class<?> face = IndexSort.class;

    public static void main(String[] args) throws IOException {
        FaceTest test = new FaceTest();
        test.sameAsInDocument();
        test.sameAsInSource();
        test.restIsHidden();
        test.checks.end();
    }

    private void sameAsInDocument() throws IOException {
        Set<String> want = new TreeSet<>();
        for (String line : documentFace()) {
            want.add(line.replaceAll("(int|boolean) \\w+(?=[,)])", "$1").replace("public ", ""));
        }
        Set<String> found = new TreeSet<>();
        for (Executable e : face.getConstructors()) {
            found.add(signature(e, "IndexSort"));
        }
        for (Method m : face.getMethods()) {
            if (m.getDeclaringClass() == face) {
                found.add(signature(m, m.getReturnType().getName() + " " + m.getName()));
            }
        }
        checks.due("the face", String.join("\n", found), String.join("\n", want));
        checks.due("how many the document has", want.size(), 1 + METHODS);
        checks.due("public and final", face.getModifiers(), Modifier.PUBLIC | Modifier.FINAL);
    }

    /** The names of parameters can't be seen in the compiled class. */
    private void sameAsInSource() throws IOException {
        String source = Files.readString(SOURCE).replaceAll("\\s+", " ");
        for (String line : documentFace()) {
            checks.due(line, source.contains(" " + line.replace(";", " {")) ? 1 : 0, 1);
        }
    }

    private static Set<String> documentFace() throws IOException {
        Set<String> lines = new TreeSet<>();
        String document = Files.readString(DOCUMENT);
        int begin = document.indexOf("```java");
        for (String line : document.substring(begin, document.indexOf("```", begin + 3)).split("\n")) {
            if (line.trim().endsWith(";")) {
                lines.add(line.trim());
            }
        }
        return lines;
    }

    private static String signature(Executable e, String begin) {
        StringBuilder text = new StringBuilder(begin).append('(');
        Class<?>[] types = e.getParameterTypes();
        for (int k = 0; k < types.length; k++) {
            text.append(k > 0 ? ", " : "").append(types[k].getName());
        }
        text.append(')');
        Class<?>[] thrown = e.getExceptionTypes();
        for (int k = 0; k < thrown.length; k++) {
            text.append(k > 0 ? ", " : " throws ").append(thrown[k].getSimpleName());
        }
        return text.append(';').toString();
    }

    private void restIsHidden() {
        checks.due("one constructor", face.getDeclaredConstructors().length, 1);
        Set<String> names = new TreeSet<>();
        for (Method m : face.getDeclaredMethods()) {
            if (Modifier.isPublic(m.getModifiers())) {
                names.add(m.getName());
            }
        }
        for (Method m : face.getDeclaredMethods()) {
            if (!Modifier.isPublic(m.getModifiers())) {
                hidden(m);
                checks.due(m + " bears the name of a public method", names.contains(m.getName()) ? 1 : 0, 0);
            }
        }
        for (Field f : face.getDeclaredFields()) {
            hidden(f);
        }
        for (Class<?> inside : face.getDeclaredClasses()) {
            if (!Modifier.isStatic(inside.getModifiers()) || Modifier.isPublic(inside.getModifiers())
                    || Modifier.isProtected(inside.getModifiers())) {
                checks.fail(inside + " is not a static class inside");
            }
        }
    }

    private void hidden(Member member) {
        if (!Modifier.isPrivate(member.getModifiers())) {
            checks.fail(member + " can be seen");
        }
    }
}
