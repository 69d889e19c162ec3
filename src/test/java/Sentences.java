import java.io.IOException;
import java.nio.file.Files;
import java.nio.file.Path;
import java.util.LinkedHashSet;
import java.util.Set;
import java.util.regex.Matcher;
import java.util.regex.Pattern;

/** The document's sentences: a test names the one it is for; each must be named, and each that is named must stand. */
final class Sentences {
    /** The number under which the sentences of the document's terms are named. */
    static final int TERMS = 0;

    private static final Pattern PROMISE = Pattern.compile("## Promise (\\d+): .*\\n((?s:.*?))(?=\\n## |\\z)");
    private static final int PROMISES = 40;
    private static final Set<String> NAMED = new LinkedHashSet<>();

    private Sentences() {
    }

    /** What is checked from now on is for this sentence. */
    static void of(int promise, String sentence) {
        String key = key(promise, sentence);
        NAMED.add(key);
        Check.group(key);
    }

    static void checkAll(Path root) throws IOException {
        Set<String> standing = standing(Files.readString(root.resolve("../shared/DOC.md")));
        Check.group("the document's sentences");
        for (String key : standing) {
            Check.same("tested: " + key, true, NAMED.contains(key) && Check.answersOf(key) > 0);
        }
        for (String key : NAMED) {
            Check.same("in the document: " + key, true, standing.contains(key));
        }
    }

    private static String key(int promise, String sentence) {
        return (promise == TERMS ? "terms" : "promise " + promise) + ", \"" + sentence + "\"";
    }

    private static Set<String> standing(String document) {
        Set<String> keys = new LinkedHashSet<>();
        Check.group("the document's sentences");
        addSentences(keys, TERMS, between(document, "## What it is", "## The public face"));
        addSentences(keys, TERMS, between(document, "## Terms", "Ahead of the calls"));
        Matcher matcher = PROMISE.matcher(document);
        int promises = 0;
        while (matcher.find()) {
            promises++;
            for (String paragraph : matcher.group(2).split("\\n\\n+")) {
                addParagraph(keys, Integer.parseInt(matcher.group(1)), paragraph.strip());
            }
        }
        Check.same("promises", PROMISES, promises);
        return keys;
    }

    private static String between(String document, String from, String to) {
        int begin = document.indexOf(from);
        int end = document.indexOf(to);
        Check.same(from, true, begin >= 0 && end > begin);
        return document.substring(begin + from.length(), end);
    }

    /** Of the parameters only those are kept that name a bound by a number. */
    private static void addParagraph(Set<String> keys, int promise, String paragraph) {
        if (!paragraph.startsWith("- ")) {
            addSentences(keys, promise, paragraph);
            return;
        }
        for (String line : paragraph.split("\\n")) {
            if (line.matches(".*\\d.*")) {
                keys.add(key(promise, line.substring(2).strip()));
            }
        }
    }

    /** A heading has one or two words and is no sentence. */
    private static void addSentences(Set<String> keys, int promise, String paragraph) {
        String flat = paragraph.replaceAll("\\s+", " ").strip().replaceFirst("^`[^`]*`: ", "");
        for (String sentence : flat.split("(?<=\\.) (?=[A-Z])")) {
            if (sentence.split(" ").length > 2) {
                keys.add(key(promise, sentence));
            }
        }
    }
}
