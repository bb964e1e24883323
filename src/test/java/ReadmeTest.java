import java.io.IOException;
import java.lang.reflect.InvocationTargetException;
import java.lang.reflect.Method;
import java.lang.reflect.Modifier;
import java.nio.file.Files;
import java.nio.file.Path;
import java.util.Set;
import java.util.TreeSet;
import java.util.regex.Matcher;
import java.util.regex.Pattern;

/** Makes the calls of the example in README.md: each is answered as it says there, and no call is left out. */
public final class ReadmeTest {
    private static final Check CHECK = new Check();
    private static final Pattern EXAMPLE = Pattern.compile("```java\n(.*?)```", Pattern.DOTALL);
    private static final Pattern ROW = Pattern.compile("mint\\.(\\w+)\\((.*)\\); +// (-?\\w+)(:.*)?");

    public static void main(String[] args) throws IOException {
        Matcher example = EXAMPLE.matcher(Files.readString(Path.of("README.md")));
        if (!example.find()) {
            throw new AssertionError("README.md has no example");
        }
        CHECK.due("the calls that the example shows", makeCalls(example.group(1)), face());
        CHECK.finish();
    }

    private static Set<String> makeCalls(String example) {
        Set<String> shown = new TreeSet<>();
        BlindMint mint = new BlindMint();
        for (String line : example.split("\n")) {
            Matcher row = ROW.matcher(line);
            if (row.matches()) {
                shown.add(row.group(1));
                CHECK.due(line, answer(mint, row.group(1), row.group(2)), row.group(3));
            } else {
                CHECK.due("is a call with its answer, or makes the object: " + line,
                        line.isEmpty() || line.equals("BlindMint mint = new BlindMint();"), true);
            }
        }
        return shown;
    }

    private static Set<String> face() {
        Set<String> names = new TreeSet<>();
        for (Method method : BlindMint.class.getDeclaredMethods()) {
            if (Modifier.isPublic(method.getModifiers())) {
                names.add(method.getName());
            }
        }
        return names;
    }

    private static String answer(BlindMint mint, String name, String arguments) {
        for (Method method : BlindMint.class.getDeclaredMethods()) {
            if (method.getName().equals(name)) {
                return answer(mint, method, arguments.isEmpty() ? new String[0] : arguments.split(", "));
            }
        }
        return "no such method";
    }

    private static String answer(BlindMint mint, Method method, String[] texts) {
        Object[] values = new Object[texts.length];
        for (int i = 0; i < texts.length; i++) {
            boolean isLong = texts[i].endsWith("L");
            values[i] = isLong ? (Object) Long.valueOf(texts[i].replace("L", "")) : Integer.valueOf(texts[i]);
        }
        try {
            return String.valueOf(method.invoke(mint, values));
        } catch (InvocationTargetException e) {
            return e.getCause().getClass().getSimpleName();
        } catch (IllegalAccessException e) {
            throw new AssertionError(e);
        }
    }
}
