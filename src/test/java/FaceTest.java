import java.io.IOException;
import java.lang.reflect.Constructor;
import java.lang.reflect.Field;
import java.lang.reflect.Method;
import java.lang.reflect.Modifier;
import java.nio.file.Files;
import java.nio.file.Path;
import java.util.ArrayList;
import java.util.Arrays;
import java.util.List;
import java.util.TreeSet;
import java.util.regex.Matcher;
import java.util.regex.Pattern;

/** The public face of the document, and what can be seen of LANGUAGE.md without reading the logic. */
public final class FaceTest {
    private static final String[] METHODS = {
        "int line(int,int,int)", "int drops(int)", "int moves(int,int)", "int of(int,int)",
        "int clash(int,int)", "int fine(int)", "int coarse(int)", "int group(int,int)",
        "int count(int)", "int alias(int,int,int)", "int without(int,int,int)", "int points(int,int)",
        "int seen(int,int)", "int misses(int)", "int type(int)", "int clear()", "int reads()",
        "int shown(int)", "int back()", "int told(int)", "long digest()"};
    private static final String[] FORBIDDEN = {
        "\\bthrow\\b", "\\btry\\b", "\\bcatch\\b", "\\bsynchronized\\b", "\\bassert\\b", "->", "::",
        "\\bpackage\\b", "\\bprotected\\b", "\\bthrows\\b", "Exact\\b", "\\bstatic \\{"};
    private static final String[] LIBRARY = {
        "Arrays.fill", "Integer.bitCount", "Math.max", "Math.min", "System.arraycopy"};
    private static final int MOST_PARAMETERS = 7;

    public static void main(String[] args) throws IOException {
        face();
        members();
        namesInside();
        String source = Files.readString(Path.of("src/main/java/JoinedNames.java"));
        String code = source.replaceAll("(?s)/\\*.*?\\*/", "").replaceAll("//[^\n]*", "");
        words(code);
        library(code);
        objectsMade(code);
        shapes();
        Check.end("FaceTest");
    }

    private static void face() {
        Class<?> face = JoinedNames.class;
        Check.due("the class", Modifier.toString(face.getModifiers()), "public final");
        Constructor<?>[] makers = face.getDeclaredConstructors();
        Check.due("constructors", makers.length, 1);
        Check.due("the constructor", makers[0].toString(), "public JoinedNames()");
        Check.due("NONE", JoinedNames.NONE, -1);
        Check.due("BAD", JoinedNames.BAD, -2);
        Check.due("NO", JoinedNames.NO, -3);
        Check.due("FULL", JoinedNames.FULL, -4);
    }

    private static void members() {
        TreeSet<String> methods = new TreeSet<>();
        for (Method m : JoinedNames.class.getDeclaredMethods()) {
            if (!Modifier.isPrivate(m.getModifiers())) {
                String shape = Modifier.toString(m.getModifiers()) + " " + m.getReturnType() + " " + m.getName();
                methods.add(shape + Arrays.toString(m.getParameterTypes()).replace(" ", "").replace('[', '(').replace(']', ')'));
            }
        }
        TreeSet<String> want = new TreeSet<>();
        for (String m : METHODS) {
            want.add("public " + m);
        }
        Check.due("methods", methods.toString(), want.toString());
        TreeSet<String> fields = new TreeSet<>();
        for (Field f : JoinedNames.class.getDeclaredFields()) {
            if (!Modifier.isPrivate(f.getModifiers())) {
                fields.add(f.toString());
            }
        }
        Check.due("fields", fields.toString(), "[public static final int JoinedNames.BAD, "
            + "public static final int JoinedNames.FULL, public static final int JoinedNames.NO, "
            + "public static final int JoinedNames.NONE]");
    }

    private static void namesInside() {
        TreeSet<String> open = new TreeSet<>();
        for (String m : METHODS) {
            open.add(m.substring(m.indexOf(' ') + 1, m.indexOf('(')));
        }
        Class<?>[] inside = JoinedNames.class.getDeclaredClasses();
        Check.due("at most twelve classes", inside.length < 12 ? 1 : 0, 1);
        for (Class<?> c : inside) {
            Check.due(c.getName() + " is static", Modifier.isStatic(c.getModifiers()) ? 1 : 0, 1);
            for (Method m : c.getDeclaredMethods()) {
                Check.due(m + " bears a public name", open.contains(m.getName()) ? 1 : 0, 0);
            }
        }
        for (Method m : JoinedNames.class.getDeclaredMethods()) {
            boolean shadow = Modifier.isPrivate(m.getModifiers()) && open.contains(m.getName());
            Check.due(m + " bears a public name", shadow ? 1 : 0, 0);
        }
    }

    private static void words(String code) {
        for (String word : FORBIDDEN) {
            Check.due("'" + word + "' in the program", Pattern.compile(word).matcher(code).find() ? 1 : 0, 0);
        }
    }

    /** What the program uses of the library: a small part of what LANGUAGE.md lists. */
    private static void library(String code) {
        TreeSet<String> used = new TreeSet<>();
        Matcher call = Pattern.compile("\\b([A-Z]\\w*[a-z]\\w*\\.\\w+)\\(").matcher(code);
        while (call.find()) {
            used.add(call.group(1));
        }
        Check.due("library", used.toString(), Arrays.toString(LIBRARY));
        TreeSet<String> imports = new TreeSet<>();
        Matcher one = Pattern.compile("(?m)^import (.*);$").matcher(code);
        while (one.find()) {
            imports.add(one.group(1));
        }
        Check.due("imports", imports.toString(), "[java.util.Arrays]");
    }

    /** Rows are made with the object and used again: fields and one constructor alone say new. */
    private static void objectsMade(String code) {
        for (String row : code.split("\n")) {
            if (row.matches(".*\\bnew\\b.*")) {
                boolean asField = row.matches("\\s+private final \\w+(\\[\\])? \\w+ = new .*");
                boolean asState = row.trim().equals("kept[k] = new Lines();");
                Check.due("made by no call: " + row.trim(), asField || asState ? 1 : 0, 1);
            }
        }
    }

    private static void shapes() {
        for (Class<?> c : withThoseInside()) {
            for (Method m : c.getDeclaredMethods()) {
                Check.due("few parameters of " + m, m.getParameterCount() <= MOST_PARAMETERS ? 1 : 0, 1);
            }
            for (Field f : c.getDeclaredFields()) {
                boolean fixed = !Modifier.isStatic(f.getModifiers()) || Modifier.isFinal(f.getModifiers());
                Check.due("fixed if static: " + f, fixed ? 1 : 0, 1);
            }
        }
    }

    private static List<Class<?>> withThoseInside() {
        List<Class<?>> all = new ArrayList<>(List.of(JoinedNames.class.getDeclaredClasses()));
        all.add(JoinedNames.class);
        return all;
    }
}
