import java.nio.file.Path;

/** Runs the project's own tests; the first argument is the folder of the project. */
public final class AllTests {
    private AllTests() {
    }

    public static void main(String[] arguments) throws Exception {
        Path root = Path.of(arguments.length > 0 ? arguments[0] : ".");
        EntriesTest.run();
        FindingsTest.run();
        DeedsTest.run();
        LinesTest.run();
        RandomRunsTest.run();
        TermsSentences.run();
        EntriesSentences.run();
        FindingsSentences.run();
        DeedsSentences.run();
        LinesSentences.run();
        Sentences.checkAll(root);
        SourceTest.run(root);
        ReadmeTest.run(root);
        System.out.println("own tests: " + Check.passed() + " answers as due, " + Check.failed() + " not as due");
        if (Check.failed() > 0 || Check.passed() == 0) {
            System.exit(1);
        }
    }
}
