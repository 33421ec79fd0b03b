import java.io.IOException;
import java.lang.reflect.Constructor;
import java.lang.reflect.Field;
import java.lang.reflect.Method;
import java.lang.reflect.Modifier;
import java.nio.file.Files;
import java.nio.file.Path;
import java.util.Arrays;
import java.util.TreeSet;
import java.util.regex.Pattern;

/** The public face of the document, and what can be seen of LANGUAGE.md without reading the logic. */
public final class FaceTest {
    private static final String[] METHODS = {
        "int line(int,int,int)", "int drops(int)", "int moves(int,int)", "int of(int,int)",
        "int clash(int,int)", "int fine(int)", "int coarse(int)", "int group(int,int)",
        "int count(int)", "int alias(int,int,int)", "int without(int,int,int)", "int points(int,int)",
        "int seen(int,int)", "int misses(int)", "int type(int)", "int clear()", "int reads()",
        "int shown(int)", "int back()", "int told(int)", "long digest()"};
    private static final String[] FORBIDDEN = {
        "\\bthrow\\b", "\\btry\\b", "\\bcatch\\b", "\\bsynchronized\\b", "\\bassert\\b", "->", "::",
        "\\bpackage\\b", "\\bprotected\\b", "\\bthrows\\b", "Exact\\b"};

    public static void main(String[] args) throws IOException {
        face();
        members();
        namesInside();
        words();
        Check.end("FaceTest");
    }

    private static void face() {
        Class<?> face = JoinedNames.class;
        Check.due("the class", Modifier.toString(face.getModifiers()), "public final");
        Constructor<?>[] makers = face.getDeclaredConstructors();
        Check.due("constructors", makers.length, 1);
        Check.due("the constructor", makers[0].toString(), "public JoinedNames()");
        Check.due("NONE", JoinedNames.NONE, -1);
        Check.due("BAD", JoinedNames.BAD, -2);
        Check.due("NO", JoinedNames.NO, -3);
        Check.due("FULL", JoinedNames.FULL, -4);
    }

    private static void members() {
        TreeSet<String> methods = new TreeSet<>();
        for (Method m : JoinedNames.class.getDeclaredMethods()) {
            if (!Modifier.isPrivate(m.getModifiers())) {
                String shape = Modifier.toString(m.getModifiers()) + " " + m.getReturnType() + " " + m.getName();
                methods.add(shape + Arrays.toString(m.getParameterTypes()).replace(" ", "").replace('[', '(').replace(']', ')'));
            }
        }
        TreeSet<String> want = new TreeSet<>();
        for (String m : METHODS) {
            want.add("public " + m);
        }
        Check.due("methods", methods.toString(), want.toString());
        TreeSet<String> fields = new TreeSet<>();
        for (Field f : JoinedNames.class.getDeclaredFields()) {
            if (!Modifier.isPrivate(f.getModifiers())) {
                fields.add(f.toString());
            }
        }
        Check.due("fields", fields.toString(), "[public static final int JoinedNames.BAD, "
            + "public static final int JoinedNames.FULL, public static final int JoinedNames.NO, "
            + "public static final int JoinedNames.NONE]");
    }

    private static void namesInside() {
        TreeSet<String> open = new TreeSet<>();
        for (String m : METHODS) {
            open.add(m.substring(m.indexOf(' ') + 1, m.indexOf('(')));
        }
        Class<?>[] inside = JoinedNames.class.getDeclaredClasses();
        Check.due("at most twelve classes", inside.length < 12 ? 1 : 0, 1);
        for (Class<?> c : inside) {
            Check.due(c.getName() + " is static", Modifier.isStatic(c.getModifiers()) ? 1 : 0, 1);
            for (Method m : c.getDeclaredMethods()) {
                Check.due(m + " bears a public name", open.contains(m.getName()) ? 1 : 0, 0);
            }
        }
        for (Method m : JoinedNames.class.getDeclaredMethods()) {
            boolean shadow = Modifier.isPrivate(m.getModifiers()) && open.contains(m.getName());
            Check.due(m + " bears a public name", shadow ? 1 : 0, 0);
        }
    }

    private static void words() throws IOException {
        String source = Files.readString(Path.of("src/main/java/JoinedNames.java"));
        String code = source.replaceAll("(?s)/\\*.*?\\*/", "").replaceAll("//[^\n]*", "");
        for (String word : FORBIDDEN) {
            Check.due("'" + word + "' in the program", Pattern.compile(word).matcher(code).find() ? 1 : 0, 0);
        }
    }
}
