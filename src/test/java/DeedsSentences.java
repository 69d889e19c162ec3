import java.util.NoSuchElementException;

/** Promises 25 to 31, sentence by sentence. */
final class DeedsSentences {
    private static final Class<IllegalArgumentException> ARGUMENT = IllegalArgumentException.class;
    private static final Class<IllegalStateException> STATE = IllegalStateException.class;
    private static final Class<IndexOutOfBoundsException> INDEX = IndexOutOfBoundsException.class;
    private static final Class<NoSuchElementException> ELEMENT = NoSuchElementException.class;
    private static final Class<UnsupportedOperationException> UNSUPPORTED = UnsupportedOperationException.class;
    private static final int LEAST = Integer.MIN_VALUE;
    private static final int MOST = Integer.MAX_VALUE;
    private static final int[] NO_NAMES = {-1, 100, 101, LEAST, MOST};
    private static final int[] NO_RULES = {-1, 5, 6, -5, LEAST, MOST};
    private static final int[] NO_ENTRIES_OF_FOURTEEN = {-1, 14, 15, 29, 30, LEAST, MOST};
    private static final String IN_BLOCK = "n1:1 { n2:2 c3 n4:4! c5 n6:6 } c7";

    private DeedsSentences() {
    }

    static void run() {
        rename();
        renameRefused();
        move();
        moveRefused();
        undo();
        weight();
        ruleAt();
        undone();
        undoneShare();
    }

    private static void rename() {
        Sentences.of(25, "Renames all entries with a name.");
        LintPress press = Texts.make("n0:1 c1 { n0:2 n5:3 } n0:4");
        press.rename(0, 99);
        Check.same("the least name to the greatest one", "n99:1 c1 { n99:2 n5:3 } n99:4", Texts.show(press));
        press.rename(99, 0);
        Check.same("the greatest name to the least one", "n0:1 c1 { n0:2 n5:3 } n0:4", Texts.show(press));
        Sentences.of(25, "Returns the number of these entries.");
        Check.same("one", 1, press.rename(5, 6));
        Check.same("three", 3, press.rename(0, 1));
        Check.same("all thirty", 30, Texts.make(Texts.repeat("n1:1", 30)).rename(1, 2));
    }

    private static void renameRefused() {
        Sentences.of(25, "Throws `IllegalArgumentException` if a name is out of range, or both are the same");
        Check.refusesEach("first name", ARGUMENT, Samples::used, (used, name) -> used.rename(name, 50), NO_NAMES);
        Check.refusesEach("new name", ARGUMENT, Samples::used, (used, name) -> used.rename(2, name), NO_NAMES);
        Check.refusesEach("new name for one that does not occur", ARGUMENT, Samples::used, (used, name) -> used.rename(50, name), NO_NAMES);
        Check.refusesEach("both", ARGUMENT, Samples::used, (used, name) -> used.rename(name, name), NO_NAMES);
        Check.refusesEach("the same", ARGUMENT, Samples::used, (used, name) -> used.rename(name, name), 0, 1, 4, 99);
        Sentences.of(25, "Throws `NoSuchElementException` if the first name does not occur");
        Check.refusesEach("no such name", ELEMENT, Samples::used, (used, name) -> used.rename(name, 50), 0, 3, 99);
        Check.refuses("nor is the new one free", ELEMENT, Samples::used, used -> used.rename(3, 4));
        Check.refuses("no entries", ELEMENT, Samples::emptied, none -> none.rename(0, 1));
        Check.refuses("only comments", ELEMENT, Samples::weightless, press -> press.rename(0, 1));
        Sentences.of(25, "Throws `UnsupportedOperationException` if an entry with it is pinned, or the new name occurs");
        Check.refuses("the only one is pinned", UNSUPPORTED, Samples::used, used -> used.rename(1, 50));
        Check.refuses("the new one occurs", UNSUPPORTED, Samples::used, used -> used.rename(4, 30));
        Check.refuses("both", UNSUPPORTED, Samples::used, used -> used.rename(2, 30));
        Check.refuses("the last one is pinned", UNSUPPORTED, () -> Texts.make("n1:1 n1:1 n1:1!"), press -> press.rename(1, 2));
        Check.refuses("the new one occurs and is pinned", UNSUPPORTED, () -> Texts.make("n1:1 n2:1!"), press -> press.rename(1, 2));
        Check.same("another one is pinned", 1, Texts.make("n1:1 n2:1!").rename(1, 3));
    }

    private static void move() {
        Sentences.of(26, "Moves a name or a comment to another place.");
        LintPress press = Texts.make("n0:1 n1:2 c3 n4:5");
        press.move(0, 3);
        Check.same("the first one to the end", "n1:2 c3 n4:5 n0:1", Texts.show(press));
        press.move(3, 0);
        Check.same("the last one to the beginning", "n0:1 n1:2 c3 n4:5", Texts.show(press));
        press.move(2, 1);
        Check.same("a comment by one", "n0:1 c3 n1:2 n4:5", Texts.show(press));
        Sentences.of(26, "Returns the number of entries that it passes.");
        Check.same("one to the right", 1, Texts.make("n1:1 n2:1 n3:1").move(1, 2));
        Check.same("one to the left", 1, Texts.make("n1:1 n2:1 n3:1").move(1, 0));
        LintPress thirty = Texts.make("c5 " + Texts.repeat("n1:1", 29));
        Check.same("29 to the right", 29, thirty.move(0, 29));
        Check.same("29 to the left", 29, thirty.move(29, 0));
    }

    private static void moveRefused() {
        Sentences.of(26, "Throws `IndexOutOfBoundsException` if there is no such entry, for either");
        Check.refusesEach("from", INDEX, Samples::used, (used, index) -> used.move(index, 12), NO_ENTRIES_OF_FOURTEEN);
        Check.refusesEach("to", INDEX, Samples::used, (used, index) -> used.move(12, index), NO_ENTRIES_OF_FOURTEEN);
        Check.refusesEach("to from a pinned one", INDEX, Samples::used, (used, index) -> used.move(0, index), NO_ENTRIES_OF_FOURTEEN);
        Check.refusesEach("both", INDEX, Samples::used, (used, index) -> used.move(index, index), NO_ENTRIES_OF_FOURTEEN);
        Check.refuses("no entries", INDEX, Samples::emptied, none -> none.move(0, 0));
        Sentences.of(26, "Throws `IllegalArgumentException` if both are the same");
        Check.refusesEach("the same", ARGUMENT, Samples::used, (used, index) -> used.move(index, index), 3, 12, 13);
        Check.refusesEach("the same pinned or of a block", ARGUMENT, Samples::used, (used, index) -> used.move(index, index), 0, 1, 2);
        Sentences.of(26, "Throws `UnsupportedOperationException` if it, or an entry that it would pass, is pinned, "
                + "a beginning or an end");
        int[][] refused = {{4, 3}, {4, 5}, {3, 4}, {2, 4}, {5, 3}, {1, 0}, {0, 1}, {2, 1}, {2, 0}, {0, 8}, {8, 0}, {7, 6},
            {6, 7}, {6, 8}, {8, 6}, {7, 8}, {8, 7}, {1, 7}};
        for (int[] pair : refused) {
            Check.refuses(pair[0] + " to " + pair[1], UNSUPPORTED, () -> Texts.make(IN_BLOCK), press -> press.move(pair[0], pair[1]));
        }
        Check.same("right behind the beginning", 1, Texts.make(IN_BLOCK).move(3, 2));
        Check.same("right ahead of the end", 1, Texts.make(IN_BLOCK).move(5, 6));
        Check.same("beside a pinned one", 1, Texts.make(IN_BLOCK).move(6, 5));
    }

    private static void undo() {
        Sentences.of(27, "Undoes the last deed.");
        LintPress press = Texts.make("n1:1 n1:2 c3");
        press.fix(0);
        press.move(0, 1);
        press.undo();
        Check.same("the move", "n1:1 c3", Texts.show(press));
        press.undo();
        Check.same("the fix", "n1:1 n1:2 c3", Texts.show(press));
        Sentences.of(27, "Returns the number of deeds that can still be undone.");
        LintPress swapped = elevenSwaps();
        for (int left = 9; left >= 0; left--) {
            Check.same("left", left, swapped.undo());
        }
        Sentences.of(27, "Throws `IllegalStateException` if none can be undone");
        Check.refuses("a new object", STATE, LintPress::new, LintPress::undo);
        Check.refuses("no deeds", STATE, () -> Texts.make("n1:1 n1:1"), LintPress::undo);
        Check.refuses("all undone", STATE, () -> undoneWhole(Samples.used()), LintPress::undo);
        Check.refuses("ten of eleven undone", STATE, () -> undoneWhole(elevenSwaps()), LintPress::undo);
        Check.refuses("an entry added", STATE, DeedsSentences::usedAndLonger, LintPress::undo);
    }

    private static LintPress elevenSwaps() {
        LintPress press = Texts.make("n1:1 n2:2");
        for (int deed = 0; deed < 11; deed++) {
            press.move(0, 1);
        }
        return press;
    }

    private static LintPress undoneWhole(LintPress press) {
        for (int times = 0; times < 20; times++) {
            Check.thrownBy(press::undo);
        }
        press.layOut();
        return press;
    }

    private static LintPress usedAndLonger() {
        LintPress press = Samples.used();
        press.begin();
        press.layOut();
        return press;
    }

    private static void weight() {
        Sentences.of(28, "Returns the weight of a rule.");
        Check.same("of now", "9 6 5 3 4", Texts.weights(Samples.used()));
        Sentences.of(28, "`rule`: the rule, 0 to 4");
        Check.same("rule 0", 10, new LintPress().weight(0));
        Check.same("rule 4", 5, new LintPress().weight(4));
        Sentences.of(28, "Returns the weight.");
        Check.same("the least weight", 0, Samples.weightless().weight(3));
        Check.same("the greatest weight", 99, Samples.heaviest().weight(0));
        Sentences.of(28, "Throws `IllegalArgumentException` if there is no such rule");
        Check.refusesEach("rule", ARGUMENT, Samples::used, (used, rule) -> used.weight(rule), NO_RULES);
    }

    private static void ruleAt() {
        Sentences.of(29, "Returns the rule at a rank, by falling weights, those with the same weight by their numbers.");
        Check.same("a new object: 10 8 6 4 5", "0 1 2 4 3", Texts.ranks(new LintPress()));
        Check.same("10 8 6 0 5", "0 1 2 4 3", Texts.ranks(Samples.weightless()));
        LintPress press = Texts.make("n1:1 n1:1 c1 c1");
        press.fix(1);
        Check.same("10 8 6 5 5", "0 1 2 3 4", Texts.ranks(press));
        press.fix(0);
        press.undo();
        Check.same("8 8 6 5 5", "0 1 2 3 4", Texts.ranks(press));
        press.fix(0);
        press.undo();
        Check.same("6 8 6 5 5", "1 0 2 3 4", Texts.ranks(press));
        press.fix(0);
        press.undo();
        Check.same("5 8 6 5 5", "1 2 0 3 4", Texts.ranks(press));
        Sentences.of(29, "`rank`: the rank, from 0");
        Check.same("rank 0", 0, new LintPress().ruleAt(0));
        Check.same("rank 4", 3, new LintPress().ruleAt(4));
        Sentences.of(29, "Returns the rule.");
        Check.same("the lightest one", 3, Samples.weightless().ruleAt(4));
        Sentences.of(29, "Throws `NoSuchElementException` if there is no such rank");
        Check.refusesEach("rank", ELEMENT, Samples::used, (used, rank) -> used.ruleAt(rank), NO_RULES);
    }

    private static void undone() {
        Sentences.of(30, "Returns how many fixes of a rule were undone.");
        Check.same("one of each", "1 1 1 1 1", Texts.undone(Samples.used()));
        LintPress press = Texts.make(Texts.repeat("n1:1", 30));
        press.fixBest();
        press.undo();
        Check.same("fifteen at once, though the weight was 0 behind nine", 15L, press.undone(0));
        Sentences.of(30, "`rule`: the rule, 0 to 4");
        Check.same("rule 0 of a new object", 0L, new LintPress().undone(0));
        Check.same("rule 4 of a new object", 0L, new LintPress().undone(4));
        Sentences.of(30, "Returns the number of fixes.");
        LintPress again = Texts.make("{ n1:1 } c1 n1:1");
        for (int times = 1; times <= 5; times++) {
            again.fix(0);
            again.undo();
            again.move(3, 4);
            again.undo();
            Check.same("fixes, not moves", (long) times, again.undone(4));
        }
        Sentences.of(30, "Throws `IllegalArgumentException` if there is no such rule");
        Check.refusesEach("rule", ARGUMENT, Samples::used, (used, rule) -> used.undone(rule), NO_RULES);
    }

    private static void undoneShare() {
        Sentences.of(31, "Returns the share of all fixes that were undone.");
        LintPress press = Texts.make("n1:1 n1:1 n1:1 n1:1");
        press.fix(0);
        Check.same("none of one", 0.0f, press.undoneShare());
        press.undo();
        Check.same("all of one", 1.0f, press.undoneShare());
        press.fixBest();
        Check.same("one of three", 1.0f / 3.0f, press.undoneShare());
        Sentences.of(31, "Returns their number divided by that of all fixes, both converted to float.");
        Check.same("five of six", 5.0f / 6.0f, Samples.used().undoneShare());
        Sentences.of(31, "Throws `ArithmeticException` if nothing was fixed");
        Check.refuses("a new object", ArithmeticException.class, LintPress::new, LintPress::undoneShare);
        Check.refuses("only renamed and moved", ArithmeticException.class, () -> Samples.full("{"), LintPress::undoneShare);
        Check.same("all undone is no nothing", 1.0f, fixedAndUndone().undoneShare());
    }

    private static LintPress fixedAndUndone() {
        LintPress press = Samples.emptied();
        press.undo();
        return press;
    }
}
