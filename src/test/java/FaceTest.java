import java.lang.reflect.Field;
import java.lang.reflect.Member;
import java.lang.reflect.Method;
import java.lang.reflect.Modifier;
import java.util.Arrays;
import java.util.Set;
import java.util.TreeSet;

/** The public face is the document's, and nothing else of the class can be seen. */
public final class FaceTest {
    private static final String[] FACE = {
        "at(int)", "compare(int,int)", "entry(int,int)", "locator(int,int,int)", "page(int,int,int)", "print()",
        "range(int,int,boolean)", "row(int,int)", "rule(int,boolean)", "run()", "see(int,int)", "sign(int,int)",
        "style(int)", "told(int,int)"};

    public static void main(String[] args) {
        Checks c = new Checks();
        Class<?> face = IndexSort.class;
        c.due("public and final", face.getModifiers(), Modifier.PUBLIC | Modifier.FINAL);
        c.due("one constructor", face.getDeclaredConstructors().length, 1);
        c.due("a public one", face.getConstructors().length, 1);
        Set<String> found = new TreeSet<>();
        Set<String> names = new TreeSet<>();
        for (Method m : face.getDeclaredMethods()) {
            if (Modifier.isPublic(m.getModifiers())) {
                found.add(signature(m));
                names.add(m.getName());
                c.due(m.getName() + " answers an int", m.getReturnType() == int.class ? 1 : 0, 1);
            }
        }
        c.due("public methods", found.toString(), new TreeSet<>(Arrays.asList(FACE)).toString());
        for (Method m : face.getDeclaredMethods()) {
            hidden(c, m, Modifier.isPublic(m.getModifiers()));
            if (!Modifier.isPublic(m.getModifiers()) && names.contains(m.getName())) {
                c.fail(m + " bears the name of a public method");
            }
        }
        for (Field f : face.getDeclaredFields()) {
            hidden(c, f, false);
            if (Modifier.isStatic(f.getModifiers()) && !Modifier.isFinal(f.getModifiers())) {
                c.fail(f + " is static and not final");
            }
        }
        for (Class<?> inside : face.getDeclaredClasses()) {
            if (!Modifier.isStatic(inside.getModifiers()) || Modifier.isPublic(inside.getModifiers())) {
                c.fail(inside + " is not a static class inside");
            }
        }
        c.end();
    }

    private static void hidden(Checks c, Member member, boolean isFace) {
        if (!isFace && !Modifier.isPrivate(member.getModifiers())) {
            c.fail(member + " can be seen");
        }
    }

    private static String signature(Method m) {
        StringBuilder text = new StringBuilder(m.getName()).append('(');
        Class<?>[] types = m.getParameterTypes();
        for (int k = 0; k < types.length; k++) {
            text.append(k > 0 ? "," : "").append(types[k].getName());
        }
        return text.append(')').toString();
    }
}
