import java.util.NoSuchElementException;

/** Promises 1 to 14. */
final class EntriesTest {
    private static final Class<IllegalArgumentException> ARGUMENT = IllegalArgumentException.class;
    private static final Class<IllegalStateException> STATE = IllegalStateException.class;
    private static final Class<IndexOutOfBoundsException> INDEX = IndexOutOfBoundsException.class;
    private static final Class<NoSuchElementException> ELEMENT = NoSuchElementException.class;
    private static final int[] WRONG_FOR_THREE = {-1, 3, 29, 30, 31, Integer.MIN_VALUE, Integer.MAX_VALUE};

    private EntriesTest() {
    }

    static void run() {
        newObject();
        addName();
        addComment();
        begin();
        end();
        entries();
        kindOf();
        nameOf();
        widthOf();
        depthOf();
        occurrences();
        commonest();
        pin();
        isPinned();
    }

    private static void newObject() {
        Check.group("promise 1");
        LintPress press = new LintPress();
        Check.same("entries", 0, press.entries());
        Check.same("isLaidOut", false, press.isLaidOut());
        Check.same("weights", "10 8 6 4 5", Texts.weights(press));
        Check.same("undone", "0 0 0 0 0", Texts.undone(press));
        Check.same("width", 40, press.setWidth(20));
        Check.fails("undo", STATE, press, press::undo);
    }

    private static void addName() {
        Check.group("promise 2");
        LintPress press = new LintPress();
        Check.same("first index", 0, press.addName(0, 1));
        Check.same("second index", 1, press.addName(99, 9));
        Check.same("text", "n0:1 n99:9", Texts.show(press));
        for (int name : new int[] {-1, 100, Integer.MIN_VALUE, Integer.MAX_VALUE}) {
            Check.fails("addName(" + name + ", 1)", ARGUMENT, press, () -> press.addName(name, 1));
        }
        for (int length : new int[] {-1, 0, 10, Integer.MIN_VALUE, Integer.MAX_VALUE}) {
            Check.fails("addName(1, " + length + ")", ARGUMENT, press, () -> press.addName(1, length));
        }
        addTo(press);
        LintPress full = Texts.make(Texts.repeat("n1:1", 29));
        Check.same("last index", 29, full.addName(2, 2));
        Check.fails("addName at 30", STATE, full, () -> full.addName(1, 1));
        Check.fails("wrong name at 30", ARGUMENT, full, () -> full.addName(100, 1));
        Check.fails("wrong length at 30", ARGUMENT, full, () -> full.addName(1, 0));
    }

    /** What every entry that is added does to the layout and the deeds. */
    private static void addTo(LintPress press) {
        press.layOut();
        press.addName(1, 1);
        Check.same("isLaidOut behind addName", false, press.isLaidOut());
        press.move(0, 1);
        press.addName(1, 1);
        Check.fails("undo behind addName", STATE, press, press::undo);
    }

    private static void addComment() {
        Check.group("promise 3");
        LintPress press = new LintPress();
        Check.same("first index", 0, press.addComment(1));
        Check.same("second index", 1, press.addComment(9));
        Check.same("text", "c1 c9", Texts.show(press));
        for (int length : new int[] {-1, 0, 10, Integer.MIN_VALUE, Integer.MAX_VALUE}) {
            Check.fails("addComment(" + length + ")", ARGUMENT, press, () -> press.addComment(length));
        }
        press.layOut();
        press.addComment(2);
        Check.same("isLaidOut", false, press.isLaidOut());
        press.move(0, 1);
        press.addComment(3);
        Check.fails("undo", STATE, press, press::undo);
        LintPress full = Texts.make(Texts.repeat("n1:1", 29));
        Check.same("last index", 29, full.addComment(2));
        Check.fails("addComment at 30", STATE, full, () -> full.addComment(1));
        Check.fails("wrong length at 30", ARGUMENT, full, () -> full.addComment(0));
    }

    private static void begin() {
        Check.group("promise 4");
        LintPress press = new LintPress();
        Check.same("first depth", 0, press.begin());
        Check.same("second depth", 1, press.begin());
        Check.same("third depth", 2, press.begin());
        press.end();
        press.end();
        Check.same("depth behind two ends", 1, press.begin());
        press.layOut();
        press.begin();
        Check.same("isLaidOut", false, press.isLaidOut());
        LintPress moved = Texts.make("n1:1 n2:1");
        moved.move(0, 1);
        moved.begin();
        Check.fails("undo", STATE, moved, moved::undo);
        LintPress full = Texts.make(Texts.repeat("{", 29));
        Check.same("last depth", 29, full.begin());
        Check.fails("begin at 30", STATE, full, full::begin);
    }

    private static void end() {
        Check.group("promise 5");
        LintPress press = new LintPress();
        Check.fails("end of nothing", STATE, press, press::end);
        Texts.add(press, "{ { n1:1");
        Check.same("inner depth", 1, press.end());
        Check.same("outer depth", 0, press.end());
        Check.fails("end of no block", STATE, press, press::end);
        LintPress moved = Texts.make("{ n1:1 n2:1");
        moved.move(1, 2);
        moved.layOut();
        moved.end();
        Check.same("isLaidOut", false, moved.isLaidOut());
        Check.fails("undo", STATE, moved, moved::undo);
        LintPress full = Texts.make(Texts.repeat("{", 29));
        Check.same("last depth", 28, full.end());
        Check.fails("end at 30", STATE, full, full::end);
        LintPress fullAndEven = Texts.make(Texts.repeat("{ }", 15));
        Check.fails("end at 30 without a block", STATE, fullAndEven, fullAndEven::end);
        LintPress taken = Texts.make("{ }");
        taken.fix(0);
        Check.fails("end behind a fix of both", STATE, taken, taken::end);
        taken.undo();
        Check.fails("end behind the undo", STATE, taken, taken::end);
    }

    private static void entries() {
        Check.group("promise 6");
        LintPress press = new LintPress();
        for (int count = 0; count < 30; count++) {
            Check.same("entries", count, press.entries());
            press.addName(count, 1);
        }
        Check.same("entries", 30, press.entries());
        Check.same("entries behind a fix", 1, Texts.make("n1:1 n1:1").fix(0));
    }

    private static void kindOf() {
        Check.group("promise 7");
        LintPress press = Texts.make("n5:3 c4 { }");
        Check.same("name", 'n', press.kindOf(0));
        Check.same("comment", 'c', press.kindOf(1));
        Check.same("beginning", '{', press.kindOf(2));
        Check.same("end", '}', press.kindOf(3));
        LintPress three = Texts.make("n1:1 c1 {");
        for (int index : WRONG_FOR_THREE) {
            Check.fails("kindOf(" + index + ")", INDEX, three, () -> three.kindOf(index));
        }
        LintPress nothing = new LintPress();
        Check.fails("kindOf(0) of nothing", INDEX, nothing, () -> nothing.kindOf(0));
        LintPress shorter = Texts.make("n1:1 n1:1");
        shorter.fix(0);
        Check.fails("kindOf an entry taken away", INDEX, shorter, () -> shorter.kindOf(1));
    }

    private static void nameOf() {
        Check.group("promise 8");
        LintPress press = Texts.make("n5:3 c4 { } n0:1 n99:1");
        Check.same("nameOf(0)", 5, press.nameOf(0));
        Check.same("nameOf(4)", 0, press.nameOf(4));
        Check.same("nameOf(5)", 99, press.nameOf(5));
        for (int index = 1; index < 4; index++) {
            int wrong = index;
            Check.fails("nameOf(" + index + ")", STATE, press, () -> press.nameOf(wrong));
        }
        LintPress three = Texts.make("n1:1 c1 {");
        for (int index : WRONG_FOR_THREE) {
            Check.fails("nameOf(" + index + ")", INDEX, three, () -> three.nameOf(index));
        }
    }

    private static void widthOf() {
        Check.group("promise 9");
        LintPress press = Texts.make("n1:1 n1:9 c1 c9 { }");
        int[] widths = {1, 9, 5, 13, 1, 1};
        for (int index = 0; index < widths.length; index++) {
            Check.same("widthOf(" + index + ")", widths[index], press.widthOf(index));
        }
        LintPress three = Texts.make("n1:1 c1 {");
        for (int index : WRONG_FOR_THREE) {
            Check.fails("widthOf(" + index + ")", INDEX, three, () -> three.widthOf(index));
        }
    }

    private static void depthOf() {
        Check.group("promise 10");
        LintPress press = Texts.make("n1:1 { c1 { n2:1 } } { } { n3:1");
        int[] depths = {0, 0, 1, 1, 2, 1, 0, 0, 0, 0, 1};
        for (int index = 0; index < depths.length; index++) {
            Check.same("depthOf(" + index + ")", depths[index], press.depthOf(index));
        }
        LintPress swapped = Texts.make("{ c1 }");
        swapped.fix(0);
        Check.same("depth of a comment taken out", 0, swapped.depthOf(2));
        Check.same("depth of the end then", 0, swapped.depthOf(1));
        LintPress three = Texts.make("n1:1 c1 {");
        for (int index : WRONG_FOR_THREE) {
            Check.fails("depthOf(" + index + ")", INDEX, three, () -> three.depthOf(index));
        }
    }

    private static void occurrences() {
        Check.group("promise 11");
        LintPress press = Texts.make("n0:1 n7:2 c7 { n7:3 } n99:1");
        Check.same("occurrences(7)", 2, press.occurrences(7));
        Check.same("occurrences(0)", 1, press.occurrences(0));
        Check.same("occurrences(99)", 1, press.occurrences(99));
        Check.same("occurrences(8)", 0, press.occurrences(8));
        for (int name : new int[] {-1, 100, Integer.MIN_VALUE, Integer.MAX_VALUE}) {
            Check.fails("occurrences(" + name + ")", ARGUMENT, press, () -> press.occurrences(name));
        }
        LintPress others = Texts.make("c1 { }");
        Check.same("comments and blocks have no name", 0, others.occurrences(0));
    }

    private static void commonest() {
        Check.group("promise 12");
        Check.same("lowest of several", 3, Texts.make("n9:1 n3:1 n3:1 n9:1 n5:1").commonest());
        Check.same("most often", 9, Texts.make("n9:1 n3:1 n9:1").commonest());
        Check.same("name 0", 0, Texts.make("n0:1 n1:1").commonest());
        Check.same("name 99", 99, Texts.make("c1 n99:1").commonest());
        LintPress others = Texts.make("c1 { }");
        Check.fails("commonest without a name", ELEMENT, others, others::commonest);
        LintPress nothing = new LintPress();
        Check.fails("commonest of nothing", ELEMENT, nothing, nothing::commonest);
    }

    private static void pin() {
        Check.group("promise 13");
        LintPress press = Texts.make("n1:1 c1 { } n2:1");
        Check.same("pin one", 1, press.pin(1, 1, true));
        Check.same("pin four", 3, press.pin(0, 3, true));
        Check.same("text", "n1:1! c1! {! }! n2:1", Texts.show(press));
        Check.same("end three", 2, press.pin(3, 4, true) + press.pin(3, 3, false));
        Check.same("text then", "n1:1! c1! {! } n2:1!", Texts.show(press));
        Check.same("end all", 4, press.pin(0, 4, false));
        Check.same("end all again", 0, press.pin(0, 4, false));
        for (int index : new int[] {-1, 5, 30, Integer.MIN_VALUE, Integer.MAX_VALUE}) {
            Check.fails("pin(" + index + ", 4)", INDEX, press, () -> press.pin(index, 4, true));
            Check.fails("pin(0, " + index + ")", INDEX, press, () -> press.pin(0, index, true));
        }
        Check.fails("pin(3, 2)", ARGUMENT, press, () -> press.pin(3, 2, true));
        Check.fails("pin(5, 2)", INDEX, press, () -> press.pin(5, 2, true));
        Check.fails("pin(2, -1)", INDEX, press, () -> press.pin(2, -1, true));
        pinAndLayout(press);
    }

    private static void pinAndLayout(LintPress press) {
        press.layOut();
        press.pin(0, 0, true);
        Check.same("isLaidOut behind a pin", false, press.isLaidOut());
        press.layOut();
        press.pin(0, 0, true);
        Check.same("isLaidOut behind a pin that was told again", false, press.isLaidOut());
        press.layOut();
        Check.fails("pin(1, 0)", ARGUMENT, press, () -> press.pin(1, 0, true));
        Check.same("isLaidOut behind a wrong pin", true, press.isLaidOut());
        LintPress moved = Texts.make("n1:1 n2:1");
        moved.move(0, 1);
        moved.pin(0, 1, true);
        Check.same("a pin leaves deeds to be undone", 0, moved.undo());
        Check.same("pins as they were ahead of the deed", "n1:1 n2:1", Texts.show(moved));
    }

    private static void isPinned() {
        Check.group("promise 14");
        LintPress press = Texts.make("n1:1 c1! {");
        Check.same("isPinned(0)", false, press.isPinned(0));
        Check.same("isPinned(1)", true, press.isPinned(1));
        Check.same("isPinned(2)", false, press.isPinned(2));
        for (int index : WRONG_FOR_THREE) {
            Check.fails("isPinned(" + index + ")", INDEX, press, () -> press.isPinned(index));
        }
        LintPress shorter = Texts.make("n1:1 n1:1 n2:1!");
        shorter.fix(0);
        Check.same("a pin goes with its entry", "n1:1 n2:1!", Texts.show(shorter));
        shorter.addName(3, 1);
        Check.same("a new entry is not pinned", "n1:1 n2:1! n3:1", Texts.show(shorter));
    }
}
