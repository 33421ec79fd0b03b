import java.io.IOException;
import java.lang.reflect.Method;
import java.lang.reflect.Modifier;
import java.nio.file.Files;
import java.nio.file.Path;
import java.util.regex.Matcher;
import java.util.regex.Pattern;

/** README.md: each call of its example answers what stands behind it, and its table has every call. */
public final class ReadmeTest {
    private static final Pattern EXAMPLE = Pattern.compile("(?s)```java\n(.*?)```");
    private static final Pattern CALL = Pattern.compile("n\\.(\\w+)\\(([-0-9, ]*)\\);\\s+// (-?\\d+): .*");
    private static final Pattern TEXT = Pattern.compile("for \\(char c : \"(.*)\"\\.toCharArray\\(\\)\\) n\\.type\\(c\\);");

    public static void main(String[] args) throws IOException, ReflectiveOperationException {
        String readme = Files.readString(Path.of("README.md"));
        Matcher example = EXAMPLE.matcher(readme);
        Check.due("there is an example", example.find() ? 1 : 0, 1);
        String[] rows = example.group(1).split("\n");
        Check.due("its first row", rows[0], "JoinedNames n = new JoinedNames();");
        JoinedNames n = new JoinedNames();
        for (int k = 1; k < rows.length; k++) {
            carryOut(n, rows[k]);
        }
        everyCallIsTold(readme);
        Check.end("ReadmeTest");
    }

    private static void carryOut(JoinedNames n, String row) throws ReflectiveOperationException {
        Matcher text = TEXT.matcher(row);
        Matcher call = CALL.matcher(row);
        if (text.matches()) {
            Helpers.type(n, text.group(1));
        } else if (call.matches()) {
            Check.due(row, answer(n, call.group(1), call.group(2)), Long.parseLong(call.group(3)));
        } else {
            Check.due("a row that can be carried out", row, "");
        }
    }

    private static long answer(JoinedNames n, String name, String list) throws ReflectiveOperationException {
        String[] words = list.isEmpty() ? new String[0] : list.split(", ");
        Class<?>[] types = new Class<?>[words.length];
        Object[] numbers = new Object[words.length];
        for (int k = 0; k < words.length; k++) {
            types[k] = int.class;
            numbers[k] = Integer.valueOf(words[k]);
        }
        return ((Number) JoinedNames.class.getMethod(name, types).invoke(n, numbers)).longValue();
    }

    private static void everyCallIsTold(String readme) {
        for (Method m : JoinedNames.class.getDeclaredMethods()) {
            if (Modifier.isPublic(m.getModifiers())) {
                Check.due("the table has " + m.getName(), readme.contains("`" + m.getName() + "(") ? 1 : 0, 1);
            }
        }
    }
}
