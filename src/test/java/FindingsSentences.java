import java.util.NoSuchElementException;

/** Promises 15 to 24, sentence by sentence. */
final class FindingsSentences {
    private static final Class<IllegalStateException> STATE = IllegalStateException.class;
    private static final Class<NoSuchElementException> ELEMENT = NoSuchElementException.class;
    private static final Class<UnsupportedOperationException> UNSUPPORTED = UnsupportedOperationException.class;
    private static final String NO_FINDING = "Throws `NoSuchElementException` if there is no such finding";
    private static final int LEAST = Integer.MIN_VALUE;
    private static final int MOST = Integer.MAX_VALUE;
    private static final int[] NO_FINDINGS_OF_FOUR = {-1, 4, 5, 14, 29, 30, -4, LEAST, MOST};
    private static final int[] NO_FINDINGS_OF_NONE = {-1, 0, 1, LEAST, MOST};
    private static final String ALL_RULES = "n1:1 n1:2 { } { c1 c2 } { n1:1 }";

    private FindingsSentences() {
    }

    static void run() {
        findings();
        ruleOf();
        firstOf();
        lastOf();
        canFix();
        best();
        bestByTrying();
        bestByTryingRefused();
        isInBest();
        fix();
        fixRefused();
        fixBest();
    }

    private static void findings() {
        Sentences.of(15, "Returns the number of findings.");
        Check.same("no entries", 0, new LintPress().findings());
        Check.same("no entries left", 0, Samples.emptied().findings());
        Check.same("one entry", 0, Texts.make("{").findings());
        Check.same("two entries", 1, Texts.make("{ }").findings());
        Check.same("all rules", 5, Texts.make(ALL_RULES).findings());
        Check.same("the last two of thirty", 1, Texts.make(Texts.repeat("n1:1 n2:1", 14) + " n3:1 n3:1").findings());
        Check.same("as many as there can be", 29, Texts.make(Texts.repeat("c1", 30)).findings());
        Check.same("pinned and weightless ones too", 9, Samples.weightless().findings());
    }

    private static void ruleOf() {
        Sentences.of(16, "Returns the rule of a finding.");
        LintPress press = Texts.make(ALL_RULES);
        Check.same("all rules", "0 1 3 2 4", press.ruleOf(0) + " " + press.ruleOf(1) + " " + press.ruleOf(2) + " "
                + press.ruleOf(3) + " " + press.ruleOf(4));
        Sentences.of(16, "Returns the rule.");
        Check.same("the first finding", 1, Texts.make("{ } n1:1 n1:1").ruleOf(0));
        Check.same("the 29th finding", 3, Texts.make(Texts.repeat("c1", 30)).ruleOf(28));
        Sentences.of(16, NO_FINDING);
        Check.refusesEach("of 4", ELEMENT, Samples::used, (used, finding) -> used.ruleOf(finding), NO_FINDINGS_OF_FOUR);
        Check.refusesEach("of none", ELEMENT, Samples::emptied, (none, finding) -> none.ruleOf(finding), NO_FINDINGS_OF_NONE);
    }

    private static void firstOf() {
        Sentences.of(17, "Returns the first entry of a finding.");
        LintPress press = Texts.make(ALL_RULES);
        Check.same("all rules", "0 2 5 6 8", press.firstOf(0) + " " + press.firstOf(1) + " " + press.firstOf(2) + " "
                + press.firstOf(3) + " " + press.firstOf(4));
        Sentences.of(17, "Returns the index of the entry.");
        Check.same("the least index", 0, Texts.make("n1:1 n1:1").firstOf(0));
        Check.same("the greatest index", 28, Texts.make(Texts.repeat("c1", 30)).firstOf(28));
        Sentences.of(17, NO_FINDING);
        Check.refusesEach("of 4", ELEMENT, Samples::used, (used, finding) -> used.firstOf(finding), NO_FINDINGS_OF_FOUR);
        Check.refusesEach("of none", ELEMENT, Samples::emptied, (none, finding) -> none.firstOf(finding), NO_FINDINGS_OF_NONE);
    }

    private static void lastOf() {
        Sentences.of(18, "Returns the last entry of a finding.");
        LintPress press = Texts.make(ALL_RULES);
        Check.same("all rules", "1 3 6 7 10", press.lastOf(0) + " " + press.lastOf(1) + " " + press.lastOf(2) + " "
                + press.lastOf(3) + " " + press.lastOf(4));
        Sentences.of(18, "Returns the index of the entry.");
        Check.same("the least index", 1, Texts.make("n1:1 n1:1").lastOf(0));
        Check.same("the greatest index", 29, Texts.make(Texts.repeat("c1", 30)).lastOf(28));
        Check.same("the greatest index for rule 4", 29, Texts.make(Texts.repeat("n1:1 n2:1 c1", 9) + " { n1:1 }").lastOf(0));
        Sentences.of(18, NO_FINDING);
        Check.refusesEach("of 4", ELEMENT, Samples::used, (used, finding) -> used.lastOf(finding), NO_FINDINGS_OF_FOUR);
        Check.refusesEach("of none", ELEMENT, Samples::emptied, (none, finding) -> none.lastOf(finding), NO_FINDINGS_OF_NONE);
    }

    private static void canFix() {
        Sentences.of(19, "Returns whether a finding can be fixed.");
        LintPress used = Samples.used();
        Check.same("the third of four is pinned", "1@1-2+* 3@3-4+* 4@5-7 2@10-11+*", Texts.findings(used));
        Sentences.of(19, "Returns whether it can.");
        LintPress press = Texts.make("n1:1! n1:1");
        Check.same("pinned", false, press.canFix(0));
        press.pin(0, 0, false);
        Check.same("not pinned any more", true, press.canFix(0));
        Check.same("weight 0", false, Samples.weightless().canFix(0));
        Sentences.of(19, NO_FINDING);
        Check.refusesEach("of 4", ELEMENT, Samples::used, (some, finding) -> some.canFix(finding), NO_FINDINGS_OF_FOUR);
        Check.refusesEach("of none", ELEMENT, Samples::emptied, (none, finding) -> none.canFix(finding), NO_FINDINGS_OF_NONE);
    }

    private static void best() {
        Sentences.of(20, "Returns the sum of the weights of the best set.");
        Check.same("all rules, two of which clash", 10 + 8 + 6 + 5, Texts.make(ALL_RULES).best());
        Check.same("weights of now: 6 of rule 1, 3 of rule 3, 5 of rule 2", 14, Samples.used().best());
        Sentences.of(20, "Returns the sum.");
        Check.same("no entries", 0, new LintPress().best());
        Check.same("no finding that can be fixed", 0, Samples.weightless().best());
        Check.same("as many as there can be", 150, Texts.make(Texts.repeat("n1:1", 30)).best());
    }

    private static void bestByTrying() {
        Sentences.of(21, "Returns the same sum, found by trying all sets of findings that can be fixed.");
        String[] texts = {"", "n1:1", "n1:1 n1:1 n1:1", ALL_RULES, "{ c1 c1 }", "c1 c1 c1 c1 c1 n1:1! n1:1", "{ { n1:1 } }"};
        for (String text : texts) {
            LintPress press = Texts.make(text);
            Check.same("as best() of " + text, press.best(), press.bestByTrying());
        }
        Sentences.of(21, "Returns the sum.");
        Check.same("no entries", 0, new LintPress().bestByTrying());
        Check.same("no finding that can be fixed", 0, Samples.weightless().bestByTrying());
        Check.same("weights of now", 14, Samples.used().bestByTrying());
    }

    private static void bestByTryingRefused() {
        Sentences.of(21, "Throws `UnsupportedOperationException` if there are more than 12 findings that can be fixed");
        Check.same("12 in a chain", 60, Texts.make(Texts.repeat("n1:1", 13)).bestByTrying());
        Check.same("12 that do not clash", 96, Texts.make(Texts.repeat("{ }", 12)).bestByTrying());
        Check.refuses("13 in a chain", UNSUPPORTED, () -> Texts.make(Texts.repeat("n1:1", 14)), LintPress::bestByTrying);
        Check.refuses("13 that do not clash", UNSUPPORTED, () -> Texts.make(Texts.repeat("{ }", 13)), LintPress::bestByTrying);
        Check.refuses("many", UNSUPPORTED, () -> Samples.full("{"), LintPress::bestByTrying);
        LintPress pinned = Texts.make(Texts.repeat("n1:1", 13) + " n1:1!");
        Check.same("13, one of which is pinned", 60, pinned.bestByTrying());
        Check.same("29, none of which can be fixed", 0, Texts.make(Texts.repeat("n1:1!", 30)).bestByTrying());
    }

    private static void isInBest() {
        Sentences.of(22, "Returns whether a finding is in the best set.");
        Check.same("all rules", "0@0-1+* 1@2-3+* 3@5-6+ 2@6-7+* 4@8-10+*", Texts.findings(Texts.make(ALL_RULES)));
        Sentences.of(22, "Returns whether it is.");
        Check.same("the first one alone", true, Texts.make("n1:1 n1:1").isInBest(0));
        Check.same("the 29th one of a chain", true, Texts.make(Texts.repeat("n1:1", 30)).isInBest(28));
        Check.same("the 28th one of a chain", false, Texts.make(Texts.repeat("n1:1", 30)).isInBest(27));
        Check.same("pinned", false, Samples.used().isInBest(2));
        Check.same("weight 0", false, Samples.weightless().isInBest(0));
        Sentences.of(22, NO_FINDING);
        Check.refusesEach("of 4", ELEMENT, Samples::used, (used, finding) -> used.isInBest(finding), NO_FINDINGS_OF_FOUR);
        Check.refusesEach("of none", ELEMENT, Samples::emptied, (none, finding) -> none.isInBest(finding), NO_FINDINGS_OF_NONE);
    }

    private static void fix() {
        Sentences.of(23, "Fixes a finding.");
        LintPress press = Texts.make(ALL_RULES);
        press.fix(4);
        press.fix(3);
        press.fix(1);
        press.fix(0);
        Check.same("text", "n1:1 { c1 } c2 n1:1", Texts.show(press));
        LintPress last = Texts.make(Texts.repeat("n1:1", 30));
        last.fix(28);
        Check.same("the last of 29 findings", 28, last.findings());
        Sentences.of(23, "Returns the number of entries then.");
        Check.same("rule 0", 1, Texts.make("n1:1 n1:1").fix(0));
        Check.same("rule 1", 0, Texts.make("{ }").fix(0));
        Check.same("rule 2", 3, Texts.make("{ c1 }").fix(0));
        Check.same("rule 3", 1, Texts.make("c1 c1").fix(0));
        Check.same("rule 4", 1, Texts.make("{ n1:1 }").fix(0));
        Check.same("30 entries", 29, Texts.make(Texts.repeat("n1:1", 30)).fix(28));
    }

    private static void fixRefused() {
        Sentences.of(23, NO_FINDING);
        Check.refusesEach("of 4", ELEMENT, Samples::used, (used, finding) -> used.fix(finding), NO_FINDINGS_OF_FOUR);
        Check.refusesEach("of none", ELEMENT, Samples::emptied, (none, finding) -> none.fix(finding), NO_FINDINGS_OF_NONE);
        Check.refusesEach("of weightless ones", ELEMENT, Samples::weightless, (press, finding) -> press.fix(finding), -1, 9, 10);
        Sentences.of(23, "Throws `UnsupportedOperationException` if it cannot be fixed");
        String[] pinned = {"n1:1! n1:1", "n1:1 n1:1!", "{! }", "{ }!", "{ c1! }", "{ c1 }!", "c1! c1", "c1 c1!",
            "{! n1:1 }", "{ n1:1! }", "{ n1:1 }!", "{! n1:1! }!"};
        for (String text : pinned) {
            Check.refuses(text, UNSUPPORTED, () -> Texts.make(text), press -> press.fix(0));
        }
        Check.refuses("the third of four", UNSUPPORTED, Samples::used, used -> used.fix(2));
        Check.refusesEach("weight 0", UNSUPPORTED, Samples::weightless, (press, finding) -> press.fix(finding), 0, 8);
    }

    private static void fixBest() {
        Sentences.of(24, "Fixes all findings of the best set, as they are now.");
        LintPress press = Texts.make("n1:1 { n1:2 } { c4 } { { } }");
        press.fixBest();
        Check.same("what the fixes bring about is not fixed", "n1:1 n1:2 { } c4 { }", Texts.show(press));
        press.fixBest();
        Check.same("but the next time", "n1:1 c4", Texts.show(press));
        LintPress side = Texts.make("c1 c2 c3 c4 { n1:1 } n1:2 n1:3 { }");
        side.fixBest();
        Check.same("side by side", "c3 c7 n1:1 n1:2", Texts.show(side));
        Sentences.of(24, "Returns the number of findings that are fixed.");
        Check.same("one", 1, Texts.make("n1:1 n1:1 n1:1").fixBest());
        Check.same("fifteen", 15, Texts.make(Texts.repeat("{ }", 15)).fixBest());
        Check.same("three of four", 3, Samples.used().fixBest());
        Sentences.of(24, "Throws `IllegalStateException` if no finding can be fixed");
        Check.refuses("no entries", STATE, LintPress::new, LintPress::fixBest);
        Check.refuses("no entries left", STATE, Samples::emptied, LintPress::fixBest);
        Check.refuses("no finding", STATE, () -> Texts.make("n1:1 n2:1"), LintPress::fixBest);
        Check.refuses("all pinned", STATE, () -> Texts.make("n1:1! n1:1 c1! c1"), LintPress::fixBest);
        Check.refuses("all weights 0", STATE, Samples::weightless, LintPress::fixBest);
    }
}
