import java.io.IOException;
import java.lang.reflect.InvocationTargetException;
import java.lang.reflect.Method;
import java.lang.reflect.Modifier;
import java.nio.file.Files;
import java.nio.file.Path;
import java.util.regex.Matcher;
import java.util.regex.Pattern;

/** README.md: its calls answer what stands behind them, and it names each call of the face. */
final class ReadmeTest {
    private static final Pattern EXAMPLE = Pattern.compile("```java\\n((?s:.*?))```");
    private static final Pattern CALL = Pattern.compile("press\\.(\\w+)\\((.*?)\\);\\s+// (\\w+).*");
    private static final String FIRST_LINE = "LintPress press = new LintPress();";

    private ReadmeTest() {
    }

    static void run(Path root) throws IOException {
        Check.group("README.md");
        String readme = Files.readString(root.resolve("README.md"));
        Matcher example = EXAMPLE.matcher(readme);
        Check.same("an example", true, example.find());
        answers(example.group(1).lines().toList().toArray(new String[0]));
        for (Method method : LintPress.class.getDeclaredMethods()) {
            boolean isOfFace = Modifier.isPublic(method.getModifiers());
            Check.same("names " + method.getName(), true, !isOfFace || readme.contains("`" + method.getName() + "`"));
        }
    }

    private static void answers(String[] lines) {
        Check.same("the first line", FIRST_LINE, lines[0]);
        LintPress press = new LintPress();
        for (int line = 1; line < lines.length; line++) {
            Matcher call = CALL.matcher(lines[line]);
            boolean isCall = call.matches();
            Check.same("a call with its answer: " + lines[line], true, isCall);
            if (isCall) {
                Check.same(lines[line], call.group(3), answer(press, call.group(1), call.group(2)));
            }
        }
    }

    private static String answer(LintPress press, String name, String written) {
        String[] parts = written.isEmpty() ? new String[0] : written.split(", ");
        Object[] arguments = new Object[parts.length];
        for (int i = 0; i < parts.length; i++) {
            boolean isNumber = parts[i].matches("-?\\d+");
            arguments[i] = isNumber ? (Object) Integer.valueOf(parts[i]) : (Object) Boolean.valueOf(parts[i]);
        }
        try {
            return "" + methodNamed(name).invoke(press, arguments);
        } catch (InvocationTargetException | IllegalAccessException thrown) {
            return "" + thrown.getCause();
        }
    }

    private static Method methodNamed(String name) {
        for (Method method : LintPress.class.getMethods()) {
            if (method.getName().equals(name)) {
                return method;
            }
        }
        throw new IllegalArgumentException("README.md calls " + name + ", which is no call of the face");
    }
}
