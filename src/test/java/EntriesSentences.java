import java.util.NoSuchElementException;

/** Promises 1 to 14, sentence by sentence. */
final class EntriesSentences {
    private static final Class<IllegalArgumentException> ARGUMENT = IllegalArgumentException.class;
    private static final Class<IllegalStateException> STATE = IllegalStateException.class;
    private static final Class<IndexOutOfBoundsException> INDEX = IndexOutOfBoundsException.class;
    private static final Class<NoSuchElementException> ELEMENT = NoSuchElementException.class;
    private static final int LEAST = Integer.MIN_VALUE;
    private static final int MOST = Integer.MAX_VALUE;
    private static final int[] NO_NAMES = {-1, 100, 101, -100, LEAST, MOST};
    private static final int[] NO_LENGTHS = {-1, 0, 10, 11, -9, LEAST, MOST};
    private static final int[] NO_ENTRIES_OF_FOURTEEN = {-1, 14, 15, 29, 30, 31, -14, LEAST, MOST};
    private static final int[] NO_ENTRIES_OF_THIRTY = {-1, 30, 31, LEAST, MOST};
    private static final int[] NO_ENTRIES_OF_NONE = {-1, 0, 1, LEAST, MOST};

    private EntriesSentences() {
    }

    static void run() {
        newObject();
        addName();
        addComment();
        begin();
        end();
        entries();
        kindOf();
        nameOf();
        widthOf();
        depthOf();
        occurrences();
        commonest();
        pin();
        pinRefused();
        isPinned();
    }

    private static void newObject() {
        Sentences.of(1, "Creates a text without entries, which is not laid out; the width is 40; "
                + "the rules 0 to 4 have the weights 10, 8, 6, 4 and 5.");
        LintPress press = new LintPress();
        Check.same("entries", 0, press.entries());
        Check.same("isLaidOut", false, press.isLaidOut());
        Check.same("weights", "10 8 6 4 5", Texts.weights(press));
        Check.same("width", 40, press.setWidth(40));
        Check.same("findings", 0, press.findings());
        Check.same("cost", 0, press.cost());
        LintPress wide = Texts.make("n1:9 n2:9 n3:9 n4:9 c1");
        Check.same("39 of 40 on the first of two lines", 1, wide.cost());
        LintPress other = new LintPress();
        press.addName(1, 1);
        Check.same("entries of another object", 0, other.entries());
    }

    private static void addName() {
        Sentences.of(2, "Adds a name at the end.");
        LintPress press = Texts.make("n7:7 { c2");
        press.addName(0, 1);
        press.addName(99, 9);
        Check.same("text", "n7:7 { c2 n0:1 n99:9", Texts.show(press));
        Sentences.of(2, "Returns the index of the entry.");
        LintPress filling = new LintPress();
        for (int index = 0; index < 30; index++) {
            Check.same("index", index, filling.addName(index, 1));
        }
        Sentences.of(2, "Throws `IllegalArgumentException` if the name or the length is out of range");
        Check.refusesEach("name", ARGUMENT, Samples::used, (used, name) -> used.addName(name, 5), NO_NAMES);
        Check.refusesEach("length", ARGUMENT, Samples::used, (used, length) -> used.addName(5, length), NO_LENGTHS);
        Check.refusesEach("both", ARGUMENT, Samples::used, (used, wrong) -> used.addName(wrong, wrong), -1, 100, MOST);
        Check.refusesEach("name at 30 entries", ARGUMENT, () -> Samples.full("n1:1"), (full, name) -> full.addName(name, 5), NO_NAMES);
        Check.refusesEach("length at 30 entries", ARGUMENT, () -> Samples.full("n1:1"), (full, length) -> full.addName(5, length), NO_LENGTHS);
        Sentences.of(2, "Throws `IllegalStateException` if there are 30 entries");
        Check.refuses("the 31st entry", STATE, () -> Samples.full("n1:1"), full -> full.addName(5, 5));
        LintPress fixed = Samples.full("n1:1");
        fixed.fix(0);
        Check.same("a place that a fix made free", 29, fixed.addName(5, 5));
    }

    private static void addComment() {
        Sentences.of(3, "Adds a comment at the end.");
        LintPress press = Texts.make("n7:7 { c2");
        press.addComment(1);
        press.addComment(9);
        Check.same("text", "n7:7 { c2 c1 c9", Texts.show(press));
        Sentences.of(3, "Returns the index of the entry.");
        LintPress filling = new LintPress();
        for (int index = 0; index < 30; index++) {
            Check.same("index", index, filling.addComment(1 + index % 9));
        }
        Sentences.of(3, "Throws `IllegalArgumentException` if the length is out of range");
        Check.refusesEach("length", ARGUMENT, Samples::used, (used, length) -> used.addComment(length), NO_LENGTHS);
        Check.refusesEach("length at 30 entries", ARGUMENT, () -> Samples.full("c1"), (full, length) -> full.addComment(length), NO_LENGTHS);
        Sentences.of(3, "Throws `IllegalStateException` if there are 30 entries");
        Check.refuses("the 31st entry", STATE, () -> Samples.full("c1"), full -> full.addComment(5));
        Check.same("the 30th entry", 29, Texts.make(Texts.repeat("c1", 29)).addComment(5));
    }

    private static void begin() {
        Sentences.of(4, "Begins a block at the end.");
        LintPress press = Texts.make("n7:7 c2 { }");
        press.begin();
        Check.same("text", "n7:7 c2 { } {", Texts.show(press));
        Sentences.of(4, "Returns the depth of the new entry.");
        Check.same("behind a block that has ended", 0, Texts.make("n7:7 { c2 }").begin());
        LintPress filling = new LintPress();
        for (int depth = 0; depth < 30; depth++) {
            Check.same("depth", depth, filling.begin());
        }
        Sentences.of(4, "Throws `IllegalStateException` if there are 30 entries");
        Check.refuses("the 31st entry", STATE, () -> Samples.full("{"), LintPress::begin);
        Check.same("the 30th entry", 1, Texts.make("{ " + Texts.repeat("n1:1", 28)).begin());
    }

    private static void end() {
        Sentences.of(5, "Ends a block at the end.");
        LintPress press = Texts.make("{ n7:7 c2");
        press.end();
        Check.same("text", "{ n7:7 c2 }", Texts.show(press));
        Sentences.of(5, "Returns the depth of the new entry.");
        LintPress filling = Texts.make(Texts.repeat("{", 15));
        for (int depth = 14; depth >= 0; depth--) {
            Check.same("depth", depth, filling.end());
        }
        Check.same("of the 30th entry", 28, Texts.make(Texts.repeat("{", 29)).end());
        Check.same("behind a block that has ended", 0, Texts.make("{ { } n1:1").end());
        Sentences.of(5, "Throws `IllegalStateException` if no block has begun that has not ended, or there are 30 entries");
        Check.refuses("no entries", STATE, LintPress::new, LintPress::end);
        Check.refuses("no block", STATE, () -> Texts.make("n1:1 c1"), LintPress::end);
        Check.refuses("all blocks ended", STATE, () -> Texts.make("{ { } } { }"), LintPress::end);
        Check.refuses("all blocks ended, with deeds", STATE, Samples::used, LintPress::end);
        Check.refuses("the block taken away", STATE, Samples::emptied, LintPress::end);
        Check.refuses("30 entries and a block", STATE, () -> Samples.full("{"), LintPress::end);
        Check.refuses("30 entries and no block", STATE, () -> Samples.full("n1:1"), LintPress::end);
    }

    private static void entries() {
        Sentences.of(6, "Returns the number of entries.");
        Check.same("none", 0, new LintPress().entries());
        Check.same("one of each kind", 4, Texts.make("n1:1 c1 { }").entries());
        Check.same("30", 30, Samples.full("{").entries());
        Check.same("all taken away", 0, Samples.emptied().entries());
        LintPress undone = Samples.emptied();
        undone.undo();
        Check.same("given back", 2, undone.entries());
    }

    private static void kindOf() {
        Sentences.of(7, "Returns the kind of an entry.");
        LintPress moved = Texts.make("n1:1 c1");
        moved.move(0, 1);
        Check.same("first when moved", 'c', moved.kindOf(0));
        Check.same("last when moved", 'n', moved.kindOf(1));
        Sentences.of(7, "`index`: the index of the entry, from 0");
        Check.same("index 0", '{', Texts.make("{ n1:1").kindOf(0));
        Check.same("index 29", 'c', Texts.make(Texts.repeat("n1:1", 29) + " c1").kindOf(29));
        Sentences.of(7, "Returns 'n', 'c', '{' or '}'.");
        LintPress press = Texts.make("n1:1 c1 { }");
        Check.same("all kinds", "nc{}", "" + press.kindOf(0) + press.kindOf(1) + press.kindOf(2) + press.kindOf(3));
        Sentences.of(7, "Throws `IndexOutOfBoundsException` if there is no such entry");
        Check.refusesEach("of 14", INDEX, Samples::used, (used, index) -> used.kindOf(index), NO_ENTRIES_OF_FOURTEEN);
        Check.refusesEach("of 30", INDEX, () -> Samples.full("{"), (full, index) -> full.kindOf(index), NO_ENTRIES_OF_THIRTY);
        Check.refusesEach("of none", INDEX, Samples::emptied, (none, index) -> none.kindOf(index), NO_ENTRIES_OF_NONE);
    }

    private static void nameOf() {
        Sentences.of(8, "Returns the name of an entry.");
        LintPress renamed = Texts.make("n5:1 c1 n5:2");
        renamed.rename(5, 6);
        Check.same("renamed", 6, renamed.nameOf(2));
        Sentences.of(8, "`index`: the index of the entry, from 0");
        Check.same("index 0", 12, Texts.make("n12:1 c1").nameOf(0));
        Check.same("index 29", 13, Texts.make(Texts.repeat("c1", 29) + " n13:1").nameOf(29));
        Sentences.of(8, "Returns the name.");
        Check.same("the least name", 0, Texts.make("n0:9").nameOf(0));
        Check.same("the greatest name", 99, Texts.make("n99:1").nameOf(0));
        Sentences.of(8, "Throws `IndexOutOfBoundsException` if there is no such entry");
        Check.refusesEach("of 14", INDEX, Samples::used, (used, index) -> used.nameOf(index), NO_ENTRIES_OF_FOURTEEN);
        Check.refusesEach("of 30", INDEX, () -> Samples.full("{"), (full, index) -> full.nameOf(index), NO_ENTRIES_OF_THIRTY);
        Check.refusesEach("of none", INDEX, Samples::emptied, (none, index) -> none.nameOf(index), NO_ENTRIES_OF_NONE);
        Sentences.of(8, "Throws `IllegalStateException` if it is no name");
        Check.refusesEach("a beginning, an end and a comment", STATE, Samples::used, (used, index) -> used.nameOf(index), 1, 2, 3, 12);
        LintPress joined = Texts.make("c1 c1 n7:1");
        joined.fix(0);
        Check.same("a name behind a fix", 7, joined.nameOf(1));
        Check.same("a comment behind a fix", "IllegalStateException", Check.thrownBy(() -> joined.nameOf(0)));
    }

    private static void widthOf() {
        Sentences.of(9, "Returns the width of an entry.");
        LintPress press = Texts.make("n1:5 c5 { }");
        Check.same("all kinds", "5 9 1 1", press.widthOf(0) + " " + press.widthOf(1) + " " + press.widthOf(2) + " " + press.widthOf(3));
        Sentences.of(9, "`index`: the index of the entry, from 0");
        Check.same("index 0", 3, Texts.make("n1:3 c1").widthOf(0));
        Check.same("index 29", 7, Texts.make(Texts.repeat("n1:1", 29) + " c3").widthOf(29));
        Sentences.of(9, "Returns the width.");
        Check.same("the narrowest name", 1, Texts.make("n99:1").widthOf(0));
        Check.same("the widest name", 9, Texts.make("n99:9").widthOf(0));
        Check.same("the narrowest comment", 5, Texts.make("c1").widthOf(0));
        Check.same("the widest comment", 13, Texts.make("c9").widthOf(0));
        Sentences.of(9, "Throws `IndexOutOfBoundsException` if there is no such entry");
        Check.refusesEach("of 14", INDEX, Samples::used, (used, index) -> used.widthOf(index), NO_ENTRIES_OF_FOURTEEN);
        Check.refusesEach("of 30", INDEX, () -> Samples.full("{"), (full, index) -> full.widthOf(index), NO_ENTRIES_OF_THIRTY);
        Check.refusesEach("of none", INDEX, Samples::emptied, (none, index) -> none.widthOf(index), NO_ENTRIES_OF_NONE);
    }

    private static void depthOf() {
        Sentences.of(10, "Returns the depth of an entry.");
        LintPress press = Texts.make("{ { n1:1 } c1 }");
        int[] depths = {0, 1, 2, 1, 1, 0};
        for (int index = 0; index < depths.length; index++) {
            Check.same("of " + index, depths[index], press.depthOf(index));
        }
        Sentences.of(10, "`index`: the index of the entry, from 0");
        Check.same("index 0", 0, Texts.make("{ { {").depthOf(0));
        Check.same("index 29", 1, Samples.full("{").depthOf(29));
        Sentences.of(10, "Returns the depth.");
        Check.same("the greatest depth", 29, Texts.make(Texts.repeat("{", 30)).depthOf(29));
        LintPress evenly = Texts.make(Texts.repeat("{", 15) + " " + Texts.repeat("}", 15));
        Check.same("the innermost beginning", 14, evenly.depthOf(14));
        Check.same("the innermost end", 14, evenly.depthOf(15));
        Check.same("the outermost end", 0, evenly.depthOf(29));
        Sentences.of(10, "Throws `IndexOutOfBoundsException` if there is no such entry");
        Check.refusesEach("of 14", INDEX, Samples::used, (used, index) -> used.depthOf(index), NO_ENTRIES_OF_FOURTEEN);
        Check.refusesEach("of 30", INDEX, () -> Samples.full("{"), (full, index) -> full.depthOf(index), NO_ENTRIES_OF_THIRTY);
        Check.refusesEach("of none", INDEX, Samples::emptied, (none, index) -> none.depthOf(index), NO_ENTRIES_OF_NONE);
    }

    private static void occurrences() {
        Sentences.of(11, "Returns how often a name occurs.");
        LintPress press = Texts.make("n0:1 c1 n99:2 { n0:3 }");
        Check.same("the least name", 2, press.occurrences(0));
        Check.same("the greatest name", 1, press.occurrences(99));
        Check.same("a name that does not occur", 0, press.occurrences(1));
        Check.same("the least name in no entry", 0, Texts.make("c1 { }").occurrences(0));
        Sentences.of(11, "Returns the number of entries.");
        Check.same("none", 0, new LintPress().occurrences(0));
        Check.same("all thirty", 30, Texts.make(Texts.repeat("n99:1", 30)).occurrences(99));
        LintPress fixed = Texts.make("n1:1 n1:2");
        fixed.fix(0);
        Check.same("one taken away", 1, fixed.occurrences(1));
        Sentences.of(11, "Throws `IllegalArgumentException` if the name is out of range");
        Check.refusesEach("name", ARGUMENT, Samples::used, (used, name) -> used.occurrences(name), NO_NAMES);
        Check.refusesEach("name without entries", ARGUMENT, Samples::emptied, (none, name) -> none.occurrences(name), NO_NAMES);
    }

    private static void commonest() {
        Sentences.of(12, "Returns the name that occurs most often, of several the lowest one.");
        Check.same("all once", 4, Texts.make("n9:1 n4:1 n5:1").commonest());
        Check.same("two of three twice", 5, Texts.make("n9:1 n4:1 n5:1 n9:1 n5:1").commonest());
        Check.same("a higher one more often", 9, Texts.make("n9:1 n0:1 n9:1").commonest());
        Check.same("more comments than names", 9, Texts.make("c1 n9:1 c1 { }").commonest());
        Sentences.of(12, "Returns the name.");
        Check.same("the least name", 0, Texts.make("n99:1 n0:1").commonest());
        Check.same("the greatest name", 99, Texts.make("n99:1").commonest());
        Check.same("all thirty", 99, Texts.make(Texts.repeat("n99:1", 30)).commonest());
        Sentences.of(12, "Throws `NoSuchElementException` if there is no name");
        Check.refuses("no entries", ELEMENT, LintPress::new, LintPress::commonest);
        Check.refuses("no entries left", ELEMENT, Samples::emptied, LintPress::commonest);
        Check.refuses("only comments", ELEMENT, Samples::weightless, LintPress::commonest);
        Check.refuses("only blocks", ELEMENT, () -> Texts.make("{ { }"), LintPress::commonest);
    }

    private static void pin() {
        Sentences.of(13, "Pins entries, or ends that they are pinned.");
        LintPress press = Texts.make("n1:1 c1 { } n2:1");
        press.pin(0, 4, true);
        Check.same("all", "n1:1! c1! {! }! n2:1!", Texts.show(press));
        press.pin(1, 3, false);
        Check.same("the middle not any more", "n1:1! c1 { } n2:1!", Texts.show(press));
        press.pin(2, 2, true);
        Check.same("one", "n1:1! c1 {! } n2:1!", Texts.show(press));
        Sentences.of(13, "Returns the number of entries for which this is another state.");
        Check.same("first and last are one, not pinned as yet", 1, press.pin(1, 1, true));
        Check.same("first and last are one, pinned already", 0, press.pin(1, 1, true));
        Check.same("four, three of them pinned already", 1, press.pin(0, 3, true));
        Check.same("none is to be ended", 0, Texts.make("n1:1 n2:1").pin(0, 1, false));
        LintPress full = Texts.make(Texts.repeat("n1:1", 30));
        Check.same("all thirty", 30, full.pin(0, 29, true));
        Check.same("all thirty again", 0, full.pin(0, 29, true));
        Check.same("all thirty not any more", 30, full.pin(0, 29, false));
    }

    private static void pinRefused() {
        Sentences.of(13, "Throws `IndexOutOfBoundsException` if there is no such entry, for either");
        Check.refusesEach("first", INDEX, Samples::used, (used, index) -> used.pin(index, 13, true), NO_ENTRIES_OF_FOURTEEN);
        Check.refusesEach("last", INDEX, Samples::used, (used, index) -> used.pin(0, index, true), NO_ENTRIES_OF_FOURTEEN);
        Check.refusesEach("both", INDEX, Samples::used, (used, index) -> used.pin(index, index, false), NO_ENTRIES_OF_FOURTEEN);
        Check.refusesEach("first of none", INDEX, Samples::emptied, (none, index) -> none.pin(index, 0, true), NO_ENTRIES_OF_NONE);
        Check.refuses("first is none and behind the last one", INDEX, Samples::used, used -> used.pin(14, 13, true));
        Check.refuses("last is none and ahead of the first one", INDEX, Samples::used, used -> used.pin(0, -1, true));
        Sentences.of(13, "Throws `IllegalArgumentException` if the last one is ahead of the first one");
        Check.refuses("by one", ARGUMENT, Samples::used, used -> used.pin(1, 0, true));
        Check.refuses("by all", ARGUMENT, Samples::used, used -> used.pin(13, 0, false));
        Check.refuses("by all of thirty", ARGUMENT, () -> Samples.full("{"), full -> full.pin(29, 0, true));
    }

    private static void isPinned() {
        Sentences.of(14, "Returns whether an entry is pinned.");
        Check.same("at first", false, Texts.make("n1:1").isPinned(0));
        Check.same("pinned", true, Texts.make("n1:1!").isPinned(0));
        LintPress press = Texts.make("n1:1! c1! {! }!");
        press.pin(1, 2, false);
        Check.same("each", "n1:1! c1 { }!", Texts.show(press));
        Sentences.of(14, "`index`: the index of the entry, from 0");
        Check.same("index 0", true, Texts.make("n1:1! c1").isPinned(0));
        Check.same("index 29", true, Texts.make(Texts.repeat("n1:1", 29) + " c1!").isPinned(29));
        Sentences.of(14, "Returns whether it is.");
        Check.same("not the one ahead", false, Texts.make("n1:1 c1! n2:1").isPinned(0));
        Check.same("nor the one behind", false, Texts.make("n1:1 c1! n2:1").isPinned(2));
        Sentences.of(14, "Throws `IndexOutOfBoundsException` if there is no such entry");
        Check.refusesEach("of 14", INDEX, Samples::used, (used, index) -> used.isPinned(index), NO_ENTRIES_OF_FOURTEEN);
        Check.refusesEach("of 30", INDEX, () -> Samples.full("{"), (full, index) -> full.isPinned(index), NO_ENTRIES_OF_THIRTY);
        Check.refusesEach("of none", INDEX, Samples::emptied, (none, index) -> none.isPinned(index), NO_ENTRIES_OF_NONE);
    }
}
