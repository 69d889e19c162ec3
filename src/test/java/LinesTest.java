import java.util.NoSuchElementException;

/** Promises 32 to 40. */
final class LinesTest {
    private static final Class<IllegalArgumentException> ARGUMENT = IllegalArgumentException.class;
    private static final Class<IllegalStateException> STATE = IllegalStateException.class;
    private static final Class<IndexOutOfBoundsException> INDEX = IndexOutOfBoundsException.class;
    private static final Class<NoSuchElementException> ELEMENT = NoSuchElementException.class;
    private static final Class<UnsupportedOperationException> UNSUPPORTED = UnsupportedOperationException.class;

    private LinesTest() {
    }

    static void run() {
        setWidth();
        layOut();
        isLaidOut();
        cost();
        costByTrying();
        lineOf();
        lineWidth();
        meanWidth();
        isTidy();
    }

    private static LintPress narrow(String writing) {
        LintPress press = Texts.make(writing);
        press.setWidth(13);
        return press;
    }

    private static void setWidth() {
        Check.group("promise 32");
        LintPress press = Texts.make("n1:9 n2:9");
        Check.same("40 before", 40, press.setWidth(13));
        Check.same("13 before", 13, press.setWidth(60));
        Check.same("60 before", 60, press.setWidth(60));
        press.layOut();
        for (int width : new int[] {-1, 0, 12, 61, Integer.MIN_VALUE, Integer.MAX_VALUE}) {
            Check.fails("setWidth(" + width + ")", ARGUMENT, press, () -> press.setWidth(width));
        }
        Check.same("isLaidOut", true, press.isLaidOut());
        press.setWidth(60);
        Check.same("isLaidOut behind a width that was told again", false, press.isLaidOut());
        press.layOut();
        press.setWidth(59);
        Check.same("isLaidOut behind another width", false, press.isLaidOut());
    }

    private static void layOut() {
        Check.group("promise 33");
        LintPress nothing = new LintPress();
        Check.same("no lines", 0, nothing.layOut());
        Check.same("laid out", true, nothing.isLaidOut());
        LintPress press = narrow("n1:9 n2:3 n3:9");
        Check.same("lines", 2, press.layOut());
        Check.same("text", "2 1", Texts.lines(press));
        Check.same("lines again", 2, press.layOut());
        Check.same("text again", "2 1", Texts.lines(press));
        checkLines("9+1+3 fits", "n1:9 n2:3", "2");
        checkLines("one too wide costs more than a line of 9", "n1:9 n2:4", "1 1");
        checkLines("a line of 1 costs more than one too wide", "{ c8 c9", "2 1");
        checkLines("pinned ones stay together", "n1:9! n2:9! n3:9", "2 1");
        checkLines("two pinned spans may be parted by one entry", "n1:9! n2:9 n3:9!", "1 1 1");
        LintPress thirty = narrow(Texts.repeat("c9", 30));
        Check.same("a line for each", 30, thirty.layOut());
        Check.same("the last line", 29, thirty.lineOf(29));
        Check.same("the last line's width", 13, thirty.lineWidth(29));
        Check.same("one line for all", 1, Texts.make(Texts.repeat("n1:1", 20)).layOut());
        checkLines("of ways as good the fullest first line", "n1:9 n2:3 n3:9 c9", "2 1 1");
        checkLines("of ways as good the fullest second line", "c9 n1:9 n2:3 n3:9 c9", "1 2 1 1");
    }

    private static void checkLines(String what, String writing, String due) {
        LintPress press = narrow(writing);
        press.layOut();
        Check.same(what, due, Texts.lines(press));
    }

    private static void isLaidOut() {
        Check.group("promise 34");
        LintPress press = Texts.make("n1:1 n1:2 c3 c4 { n5:5 }");
        Check.same("at first", false, press.isLaidOut());
        press.layOut();
        Check.same("laid out", true, press.isLaidOut());
        press.cost();
        press.costByTrying();
        press.isTidy();
        press.best();
        Check.same("asking changes nothing", true, press.isLaidOut());
        Check.thrownBy(() -> press.fix(9));
        Check.thrownBy(() -> press.move(0, 4));
        Check.thrownBy(() -> press.rename(1, 5));
        Check.thrownBy(press::undo);
        Check.thrownBy(() -> press.addName(1, 0));
        Check.thrownBy(press::end);
        Check.same("what throws changes nothing", true, press.isLaidOut());
        press.fix(0);
        Check.same("fixed", false, press.isLaidOut());
        press.layOut();
        press.undo();
        Check.same("undone", false, press.isLaidOut());
        press.layOut();
        Check.same("laid out again", true, press.isLaidOut());
    }

    private static void cost() {
        Check.group("promise 35");
        Check.same("nothing", 0, new LintPress().cost());
        Check.same("the last line costs nothing", 0, narrow("n1:1").cost());
        Check.same("just as wide", 0, narrow("n1:9 n2:3").cost());
        Check.same("a square", 16, narrow("n1:9 n2:4").cost());
        Check.same("one too wide", 100, narrow("{ c8").cost());
        Check.same("one too wide ahead of the last line", 100, narrow("{ c8 c9").cost());
        Check.same("too wide on the last line", 600, narrow("n1:9! n2:9!").cost());
        Check.same("too wide ahead of the last line", 600, narrow("n1:9! n2:9! n3:1").cost());
        LintPress press = Texts.make("n1:9 n2:9 n3:9 n4:9 n5:9");
        Check.same("39 of 40", 1, press.cost());
        press.layOut();
        press.setWidth(39);
        Check.same("39 of 39, though not laid out", 0, press.cost());
        Check.same("isLaidOut", false, press.isLaidOut());
        Check.same("all pinned", (419 - 13) * 100, narrow(Texts.repeat("c9!", 30)).cost());
    }

    private static void costByTrying() {
        Check.group("promise 36");
        Check.same("nothing", 0, new LintPress().costByTrying());
        Check.same("a square", 16, narrow("n1:9 n2:4").costByTrying());
        Check.same("pinned", 600, narrow("n1:9! n2:9!").costByTrying());
        LintPress twelve = narrow(Texts.repeat("n1:5", 12));
        Check.same("twelve", 20, twelve.costByTrying());
        Check.same("twelve, the other way", 20, twelve.cost());
        twelve.layOut();
        Check.same("lines of two", "2 2 2 2 2 2", Texts.lines(twelve));
        twelve.addName(2, 1);
        Check.fails("thirteen", UNSUPPORTED, twelve, twelve::costByTrying);
        Check.same("twelve pinned", (12 * 14 - 1 - 13) * 100, narrow(Texts.repeat("c9!", 12)).costByTrying());
    }

    private static void lineOf() {
        Check.group("promise 37");
        LintPress press = narrow("n1:9 n2:3 n3:9 n4:3 c9");
        Check.fails("not laid out", STATE, press, () -> press.lineOf(0));
        Check.fails("not laid out, and no such entry", INDEX, press, () -> press.lineOf(5));
        press.layOut();
        int[] lines = {0, 0, 1, 1, 2};
        for (int index = 0; index < lines.length; index++) {
            Check.same("lineOf(" + index + ")", lines[index], press.lineOf(index));
        }
        for (int index : new int[] {-1, 5, 30, Integer.MIN_VALUE, Integer.MAX_VALUE}) {
            Check.fails("lineOf(" + index + ")", INDEX, press, () -> press.lineOf(index));
        }
        press.cost();
        Check.same("asking leaves the lines", 2, press.lineOf(4));
        press.move(0, 1);
        Check.fails("moved", STATE, press, () -> press.lineOf(0));
    }

    private static void lineWidth() {
        Check.group("promise 38");
        LintPress press = narrow("n1:9 n2:3 { c1 } n4:3 c9");
        Check.fails("not laid out", STATE, press, () -> press.lineWidth(0));
        Check.fails("not laid out, and no such line", STATE, press, () -> press.lineWidth(-1));
        Check.same("lines", 3, press.layOut());
        Check.same("9+1+3", 13, press.lineWidth(0));
        Check.same("1+1+5+1+1+1+3", 13, press.lineWidth(1));
        Check.same("13", 13, press.lineWidth(2));
        for (int line : new int[] {-1, 3, 7, 30, Integer.MIN_VALUE, Integer.MAX_VALUE}) {
            Check.fails("lineWidth(" + line + ")", ELEMENT, press, () -> press.lineWidth(line));
        }
        LintPress nothing = new LintPress();
        nothing.layOut();
        Check.fails("a line of nothing", ELEMENT, nothing, () -> nothing.lineWidth(0));
        LintPress pinned = narrow(Texts.repeat("c9!", 30));
        pinned.layOut();
        Check.same("the widest line", 419, pinned.lineWidth(0));
    }

    private static void meanWidth() {
        Check.group("promise 39");
        LintPress nothing = new LintPress();
        Check.fails("nothing", ArithmeticException.class, nothing, nothing::meanWidth);
        Check.same("one", 9.0, Texts.make("n1:9").meanWidth());
        Check.same("four", 18.0 / 4.0, Texts.make("n1:3 c9 { }").meanWidth());
        Check.same("three", 7.0 / 3.0, Texts.make("{ c1 }").meanWidth());
        LintPress taken = Texts.make("{ }");
        taken.fix(0);
        Check.fails("both taken away", ArithmeticException.class, taken, taken::meanWidth);
    }

    private static void isTidy() {
        Check.group("promise 40");
        Check.same("nothing", true, new LintPress().isTidy());
        LintPress press = narrow("n1:9 n1:3 { c1 } n4:3 c9 c9 { n5:5 }");
        Check.same("not laid out", true, press.isTidy());
        press.layOut();
        Check.same("laid out", true, press.isTidy());
        Check.same("still laid out", true, press.isLaidOut());
        press.pin(0, 4, true);
        Check.same("pinned", true, press.isTidy());
        press.layOut();
        Check.same("pinned and laid out", true, press.isTidy());
        LintPress full = Texts.make(Texts.repeat("n1:1", 30));
        full.layOut();
        Check.same("too many to try", true, full.isTidy());
    }
}
