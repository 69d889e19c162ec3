import java.io.IOException;
import java.lang.reflect.Constructor;
import java.lang.reflect.Field;
import java.lang.reflect.Member;
import java.lang.reflect.Method;
import java.lang.reflect.Modifier;
import java.nio.file.Files;
import java.nio.file.Path;
import java.util.Arrays;
import java.util.Set;
import java.util.TreeSet;
import java.util.regex.Matcher;
import java.util.regex.Pattern;

/** The face is the document's one, and the source keeps to those rules of LANGUAGE.md that can be told by its words. */
final class SourceTest {
    private static final Pattern SIGNATURE = Pattern.compile("public (\\w+) (\\w+)\\(([^)]*)\\)");
    private static final Pattern METHOD = Pattern.compile("(?m)^((?: {4}){1,2})(?! |\\})[^\\n]*\\)"
            + "(?:\\n +throws)?[^\\n;]* \\{\\n((?s:.*?))^\\1\\}$");

    private SourceTest() {
    }

    static void run(Path root) throws IOException {
        Check.group("the face");
        Check.same("methods", dueMethods(root), ownMethods());
        Check.same("constructors", "[public LintPress()]", Arrays.toString(LintPress.class.getConstructors()));
        Check.same("public and final", true, Modifier.isFinal(LintPress.class.getModifiers()));
        onlyPrivateBesides();
        Check.group("the language");
        String source = Files.readString(root.resolve("src/main/java/LintPress.java"));
        words(source);
        methodLengths(source);
        privateNames();
        sizes(LintPress.class);
        for (Class<?> inside : LintPress.class.getDeclaredClasses()) {
            sizes(inside);
        }
    }

    private static Set<String> dueMethods(Path root) throws IOException {
        String document = Files.readString(root.resolve("../shared/DOC.md"));
        Set<String> due = new TreeSet<>();
        Matcher matcher = SIGNATURE.matcher(document);
        while (matcher.find()) {
            due.add(matcher.group(1) + " " + matcher.group(2) + "(" + types(matcher.group(3)) + ")");
        }
        Check.same("methods in the document", 39, due.size());
        return due;
    }

    private static String types(String parameters) {
        StringBuilder types = new StringBuilder();
        for (String parameter : parameters.isEmpty() ? new String[0] : parameters.split(", ")) {
            types.append(types.length() == 0 ? "" : ", ").append(parameter.split(" ")[0]);
        }
        return types.toString();
    }

    private static Set<String> ownMethods() {
        Set<String> own = new TreeSet<>();
        for (Method method : LintPress.class.getDeclaredMethods()) {
            if (Modifier.isPublic(method.getModifiers())) {
                StringBuilder types = new StringBuilder();
                for (Class<?> type : method.getParameterTypes()) {
                    types.append(types.length() == 0 ? "" : ", ").append(type);
                }
                own.add(method.getReturnType() + " " + method.getName() + "(" + types + ")");
            }
        }
        return own;
    }

    private static void onlyPrivateBesides() {
        for (Method method : LintPress.class.getDeclaredMethods()) {
            checkPublicOrPrivate(method);
        }
        for (Constructor<?> constructor : LintPress.class.getDeclaredConstructors()) {
            checkPublicOrPrivate(constructor);
        }
        for (Field field : LintPress.class.getDeclaredFields()) {
            Check.same(field + " private", true, Modifier.isPrivate(field.getModifiers()));
            boolean isFinal = Modifier.isFinal(field.getModifiers());
            Check.same(field + " final if static", true, isFinal || !Modifier.isStatic(field.getModifiers()));
        }
        for (Class<?> inside : LintPress.class.getDeclaredClasses()) {
            Check.same(inside + " static", true, Modifier.isStatic(inside.getModifiers()));
        }
        Check.same("at most twelve classes", true, LintPress.class.getDeclaredClasses().length <= 11);
    }

    private static void checkPublicOrPrivate(Member member) {
        int modifiers = member.getModifiers();
        Check.same(member + " public or private", true, Modifier.isPublic(modifiers) || Modifier.isPrivate(modifiers));
    }

    private static void privateNames() {
        Set<String> face = new TreeSet<>();
        for (Method method : LintPress.class.getMethods()) {
            face.add(method.getName());
        }
        for (Method method : LintPress.class.getDeclaredMethods()) {
            boolean isFaceName = face.contains(method.getName());
            Check.same(method + " has a name of its own", false, isFaceName && Modifier.isPrivate(method.getModifiers()));
        }
        for (Class<?> inside : LintPress.class.getDeclaredClasses()) {
            for (Method method : inside.getDeclaredMethods()) {
                Check.same(method + " has a name of its own", false, face.contains(method.getName()));
            }
        }
    }

    private static void sizes(Class<?> one) {
        for (Method method : one.getDeclaredMethods()) {
            Check.same(method + " takes at most seven parameters", true, method.getParameterCount() <= 7);
        }
        long fields = Arrays.stream(one.getDeclaredFields()).filter(f -> !Modifier.isStatic(f.getModifiers())).count();
        Check.same(one + " has at most twenty fields", true, fields <= 20);
    }

    /** A method's first and last line are told by their indents: 4 in the class, 8 in a class inside. */
    private static void methodLengths(String source) {
        Matcher method = METHOD.matcher(source);
        int methods = 0;
        while (method.find()) {
            methods++;
            long lines = method.group(2).lines().count();
            Check.same(method.group().lines().findFirst().orElse("").strip() + " has at most sixty lines", true, lines <= 60);
        }
        Check.same("methods are found", true, methods >= 100);
    }

    private static void words(String source) {
        String code = source.replaceAll("/\\*(?s:.*?)\\*/", "").replaceAll("//.*", "").replaceAll("\"[^\"]*\"", "\"\"");
        String[] refused = {"package ", "->", "::", "\\bcatch\\b", "\\btry\\b", "\\bfinally\\b", "\\bassert\\b",
            "\\bsynchronized\\b", "Exact\\b", "\\bSystem\\.", "\\bRandom\\b", "\\bThread\\b",
            "\\bInteger\\.", "\\bequals\\b", "\\bhashCode\\b", "\\btoString\\b", "import (?!java\\.util\\.NoSuchElementException;)",
            "\\bMath\\.(?!min\\b|max\\b)", "static \\{"};
        for (String word : refused) {
            Matcher matcher = Pattern.compile(word).matcher(code);
            Check.same("no " + word, false, matcher.find());
        }
        Check.same("only signs up to 127", true, source.chars().allMatch(sign -> sign < 128));
    }
}
