import java.util.NoSuchElementException;

/** Promises 32 to 40, sentence by sentence. */
final class LinesSentences {
    private static final Class<IllegalArgumentException> ARGUMENT = IllegalArgumentException.class;
    private static final Class<IllegalStateException> STATE = IllegalStateException.class;
    private static final Class<IndexOutOfBoundsException> INDEX = IndexOutOfBoundsException.class;
    private static final Class<NoSuchElementException> ELEMENT = NoSuchElementException.class;
    private static final Class<UnsupportedOperationException> UNSUPPORTED = UnsupportedOperationException.class;
    private static final int LEAST = Integer.MIN_VALUE;
    private static final int MOST = Integer.MAX_VALUE;
    private static final int[] NO_WIDTHS = {12, 61, 0, -1, -13, 100, LEAST, MOST};
    private static final int[] NO_ENTRIES_OF_FOURTEEN = {-1, 14, 15, 29, 30, LEAST, MOST};
    private static final int[] NO_ENTRIES_OF_THIRTY = {-1, 30, 31, LEAST, MOST};

    private LinesSentences() {
    }

    static void run() {
        setWidth();
        layOut();
        isLaidOut();
        cost();
        costByTrying();
        lineOf();
        lineOfRefused();
        lineWidth();
        lineWidthRefused();
        meanWidth();
        isTidy();
    }

    private static LintPress at(int width, String writing) {
        LintPress press = Texts.make(writing);
        press.setWidth(width);
        return press;
    }

    private static LintPress laidOutAt(int width, String writing) {
        LintPress press = at(width, writing);
        press.layOut();
        return press;
    }

    private static void setWidth() {
        Sentences.of(32, "Sets the width.");
        Check.same("9 of 13", 16, at(13, "n1:9 n2:9").cost());
        Check.same("9 of 18", 81, at(18, "n1:9 n2:9").cost());
        Check.same("19 of 19", 0, at(19, "n1:9 n2:9").cost());
        Sentences.of(32, "`width`: the width, 13 to 60");
        LintPress press = new LintPress();
        for (int width = 13; width <= 60; width++) {
            Check.same("width before", width == 13 ? 40 : width - 1, press.setWidth(width));
        }
        Check.same("59 of 60", 1, at(60, Texts.repeat("n1:9", 7)).cost());
        Sentences.of(32, "Returns the width before.");
        Check.same("the first time", 40, Texts.make("n1:1").setWidth(13));
        Check.same("the same again", 13, at(13, "n1:1").setWidth(13));
        Sentences.of(32, "Throws `IllegalArgumentException` if the width is out of range");
        Check.refusesEach("width", ARGUMENT, Samples::used, (used, width) -> used.setWidth(width), NO_WIDTHS);
        Check.refusesEach("width without entries", ARGUMENT, LintPress::new, (none, width) -> none.setWidth(width), NO_WIDTHS);
    }

    private static void layOut() {
        Sentences.of(33, "Lays the text out.");
        LintPress press = at(13, "n1:9 n2:3 c9 n3:4 n4:4 n5:3 n6:1");
        press.layOut();
        Check.same("entries on the lines", "2 1 3 1", Texts.lines(press));
        press.setWidth(60);
        press.layOut();
        Check.same("entries on the only line", "7", Texts.lines(press));
        Sentences.of(33, "Returns the number of lines, 0 without entries.");
        Check.same("no entries", 0, new LintPress().layOut());
        Check.same("no entries left", 0, Samples.emptied().layOut());
        Check.same("one entry", 1, Texts.make("{").layOut());
        Check.same("four lines", 4, at(13, "n1:9 n2:3 c9 n3:4 n4:4 n5:3 n6:1").layOut());
        Check.same("a line for each of thirty", 30, at(13, Texts.repeat("c9", 30)).layOut());
        Check.same("thirty pinned ones on one line", 1, at(13, Texts.repeat("c9!", 30)).layOut());
        Check.same("thirty on one line", 1, at(60, Texts.repeat("n1:1", 30)).layOut());
    }

    private static void isLaidOut() {
        Sentences.of(34, "Returns whether the text is laid out.");
        Check.same("a new object", false, new LintPress().isLaidOut());
        Check.same("with entries", false, Texts.make("n1:1").isLaidOut());
        Check.same("laid out", true, laidOutAt(13, "n1:1").isLaidOut());
        Sentences.of(34, "Returns whether it is.");
        LintPress none = new LintPress();
        none.layOut();
        Check.same("without entries", true, none.isLaidOut());
        none.addName(1, 1);
        Check.same("an entry added", false, none.isLaidOut());
    }

    private static void cost() {
        Sentences.of(35, "Returns the least sum of the costs of lines, also if the text is not laid out.");
        LintPress press = at(13, "n1:9 n2:4 n3:9");
        Check.same("16 and 81, each entry on a line of its own", 97, press.cost());
        Check.same("not laid out by it", false, press.isLaidOut());
        press.layOut();
        Check.same("laid out", 97, press.cost());
        LintPress shorter = at(13, "n1:9 n1:9 n1:9");
        Check.same("two lines of 9", 32, shorter.cost());
        shorter.fix(0);
        shorter.fix(0);
        Check.same("two entries less", 0, shorter.cost());
        Sentences.of(35, "Returns the sum.");
        Check.same("no entries", 0, new LintPress().cost());
        Check.same("one line, however short", 0, at(60, "{").cost());
        Check.same("the widest line that can be: 419 of 13", 40600, at(13, Texts.repeat("c9!", 30)).cost());
        Check.same("a line for each of thirty, none too short", 0, at(13, Texts.repeat("c9", 30)).cost());
        Check.same("29 lines of 12", 29, at(13, Texts.repeat("c8", 30)).cost());
    }

    private static void costByTrying() {
        Sentences.of(36, "Returns the same sum, found by trying all ways.");
        String[] texts = {"", "{", "n1:9 n2:4 n3:9", "n1:9! n2:9! c9", Texts.repeat("n1:5", 12), Texts.repeat("c8! n1:3", 6)};
        for (String text : texts) {
            LintPress press = at(13, text);
            Check.same("as cost() of " + text, press.cost(), press.costByTrying());
        }
        Sentences.of(36, "Returns the sum.");
        Check.same("no entries", 0, new LintPress().costByTrying());
        Check.same("97", 97, at(13, "n1:9 n2:4 n3:9").costByTrying());
        Check.same("twelve pinned ones: 167 of 13", 15400, at(13, Texts.repeat("c9!", 12)).costByTrying());
        Sentences.of(36, "Throws `UnsupportedOperationException` if there are more than 12 entries");
        Check.same("12", 11, at(13, Texts.repeat("c8", 12)).costByTrying());
        Check.refuses("13", UNSUPPORTED, () -> laidOutAt(13, Texts.repeat("c8", 13)), LintPress::costByTrying);
        Check.refuses("14", UNSUPPORTED, Samples::used, LintPress::costByTrying);
        Check.refuses("30", UNSUPPORTED, () -> Samples.full("{"), LintPress::costByTrying);
        LintPress fixed = at(13, Texts.repeat("c8", 13));
        fixed.fix(0);
        Check.same("13, and one less by a fix", fixed.cost(), fixed.costByTrying());
    }

    private static void lineOf() {
        Sentences.of(37, "Returns the line of an entry.");
        LintPress press = laidOutAt(13, "n1:9 n2:3 c9 n3:4 n4:4 n5:3 n6:1");
        int[] lines = {0, 0, 1, 2, 2, 2, 3};
        for (int index = 0; index < lines.length; index++) {
            Check.same("of " + index, lines[index], press.lineOf(index));
        }
        Sentences.of(37, "`index`: the index of the entry, from 0");
        LintPress thirty = laidOutAt(13, Texts.repeat("c9", 30));
        Check.same("index 0", 0, thirty.lineOf(0));
        Check.same("index 29", 29, thirty.lineOf(29));
        Sentences.of(37, "Returns the number of the line, from 0.");
        Check.same("the only line", 0, laidOutAt(60, Texts.repeat("n1:1", 30)).lineOf(29));
        Check.same("the last line but one", 28, thirty.lineOf(28));
    }

    private static void lineOfRefused() {
        Sentences.of(37, "Throws `IndexOutOfBoundsException` if there is no such entry");
        Check.refusesEach("of 14", INDEX, Samples::used, (used, index) -> used.lineOf(index), NO_ENTRIES_OF_FOURTEEN);
        Check.refusesEach("of 14, not laid out", INDEX, Samples::usedAndNotLaidOut, (used, index) -> used.lineOf(index),
                NO_ENTRIES_OF_FOURTEEN);
        Check.refusesEach("of 30", INDEX, () -> Samples.full("{"), (full, index) -> full.lineOf(index), NO_ENTRIES_OF_THIRTY);
        Check.refusesEach("of none", INDEX, Samples::emptied, (none, index) -> none.lineOf(index), -1, 0, 1, LEAST, MOST);
        Sentences.of(37, "Throws `IllegalStateException` if the text is not laid out");
        Check.refusesEach("not laid out any more", STATE, Samples::usedAndNotLaidOut, (used, index) -> used.lineOf(index), 0, 7, 13);
        Check.refuses("never laid out", STATE, () -> Texts.make("n1:1"), press -> press.lineOf(0));
    }

    private static void lineWidth() {
        Sentences.of(38, "Returns how wide a line is.");
        LintPress press = laidOutAt(13, "n1:9 n2:3 c9 n3:4 n4:4 n5:3 n6:1");
        int[] widths = {13, 13, 13, 1};
        for (int line = 0; line < widths.length; line++) {
            Check.same("of " + line, widths[line], press.lineWidth(line));
        }
        Sentences.of(38, "Returns the width.");
        Check.same("the narrowest line", 1, laidOutAt(13, "{").lineWidth(0));
        Check.same("the widest line", 419, laidOutAt(13, Texts.repeat("c9!", 30)).lineWidth(0));
        Check.same("the 30th line", 13, laidOutAt(13, Texts.repeat("c9", 30)).lineWidth(29));
        Check.same("one wider than the width", 14, laidOutAt(13, "n1:9! n2:4!").lineWidth(0));
    }

    private static void lineWidthRefused() {
        Sentences.of(38, "Throws `IllegalStateException` if the text is not laid out");
        Check.refusesEach("not laid out any more", STATE, Samples::usedAndNotLaidOut, (used, line) -> used.lineWidth(line),
                0, 1, -1, 14, LEAST, MOST);
        Check.refuses("never laid out", STATE, () -> Texts.make("n1:1"), press -> press.lineWidth(0));
        Check.refuses("never laid out, without entries", STATE, LintPress::new, press -> press.lineWidth(0));
        Sentences.of(38, "Throws `NoSuchElementException` if there is no such line");
        int lines = Samples.used().layOut();
        Check.same("the last line is one", true, Samples.used().lineWidth(lines - 1) > 0);
        Check.refusesEach("line", ELEMENT, Samples::used, (used, line) -> used.lineWidth(line), -1, lines, lines + 1, 30, LEAST, MOST);
        Check.refusesEach("of 30 lines", ELEMENT, () -> laidOutAt(13, Texts.repeat("c9", 30)), (press, line) -> press.lineWidth(line),
                -1, 30, 31);
        Check.refusesEach("of no lines", ELEMENT, Samples::emptied, (none, line) -> none.lineWidth(line), -1, 0, 1, LEAST, MOST);
    }

    private static void meanWidth() {
        Sentences.of(39, "Returns the mean width of the entries.");
        Check.same("all kinds", 16.0 / 4.0, Texts.make("n1:5 c5 { }").meanWidth());
        Sentences.of(39, "Returns the sum of the widths divided by the number of entries, both converted to double.");
        Check.same("one", 13.0, Texts.make("c9").meanWidth());
        Check.same("no whole number", 11.0 / 3.0, Texts.make("n1:9 { }").meanWidth());
        Check.same("thirty of the narrowest", 1.0, Texts.make(Texts.repeat("{", 30)).meanWidth());
        Check.same("thirty of the widest", 13.0, Texts.make(Texts.repeat("c9", 30)).meanWidth());
        Sentences.of(39, "Throws `ArithmeticException` if there are no entries");
        Check.refuses("a new object", ArithmeticException.class, LintPress::new, LintPress::meanWidth);
        Check.refuses("no entries left", ArithmeticException.class, Samples::emptied, LintPress::meanWidth);
    }

    private static void isTidy() {
        Sentences.of(40, "Returns whether all is tidy: the lines of a text that is laid out cost the least sum, and laying out "
                + "once more would give the same lines; no two findings of the best set clash; and, as far as all can be tried, "
                + "both sums are the same by trying.");
        Check.same("laid out", true, laidOutAt(13, "n1:9 n2:3 c9 n3:4 n4:4 n5:3 n6:1").isTidy());
        Check.same("not laid out any more", true, Samples.usedAndNotLaidOut().isTidy());
        Check.same("findings that clash", true, laidOutAt(13, "{ c1 c1 c1 } n1:1 n1:1 n1:1").isTidy());
        Check.same("12 entries and 12 findings less one", true, laidOutAt(13, Texts.repeat("c1", 12)).isTidy());
        Check.same("13 entries and 12 findings", true, laidOutAt(13, Texts.repeat("c1", 13)).isTidy());
        Check.same("14 entries and 13 findings", true, laidOutAt(13, Texts.repeat("c1", 14)).isTidy());
        Sentences.of(40, "Returns whether this holds.");
        Check.same("a new object", true, new LintPress().isTidy());
        Check.same("no entries left, laid out", true, Samples.emptied().isTidy());
        Check.same("thirty entries", true, Samples.full("{").isTidy());
        Check.same("all weights 0", true, Samples.weightless().isTidy());
        LintPress press = Texts.make("n1:1");
        press.isTidy();
        Check.same("lays nothing out", false, press.isLaidOut());
    }
}
