import java.util.NoSuchElementException;

/** Promises 25 to 31. */
final class DeedsTest {
    private static final Class<IllegalArgumentException> ARGUMENT = IllegalArgumentException.class;
    private static final Class<IllegalStateException> STATE = IllegalStateException.class;
    private static final Class<IndexOutOfBoundsException> INDEX = IndexOutOfBoundsException.class;
    private static final Class<NoSuchElementException> ELEMENT = NoSuchElementException.class;
    private static final Class<UnsupportedOperationException> UNSUPPORTED = UnsupportedOperationException.class;
    private static final int[] WRONG_FOR_FIVE = {-1, 5, 6, 30, Integer.MIN_VALUE, Integer.MAX_VALUE};

    private DeedsTest() {
    }

    static void run() {
        rename();
        move();
        moveRefused();
        undo();
        lastTenDeeds();
        undoOfPins();
        weight();
        weightAtItsEnds();
        ruleAt();
        undone();
        undoneShare();
    }

    private static void rename() {
        Check.group("promise 25");
        LintPress press = Texts.make("n1:1 c1 { n1:2 n2:3 } n1:4");
        press.layOut();
        Check.same("three", 3, press.rename(1, 7));
        Check.same("text", "n7:1 c1 { n7:2 n2:3 } n7:4", Texts.show(press));
        Check.same("isLaidOut", false, press.isLaidOut());
        Check.same("to 0", 3, press.rename(7, 0));
        Check.same("to 99", 3, press.rename(0, 99));
        Check.same("weights stay", "10 8 6 4 5", Texts.weights(press));
        for (int name : new int[] {-1, 100, Integer.MIN_VALUE, Integer.MAX_VALUE}) {
            Check.fails("rename(" + name + ", 5)", ARGUMENT, press, () -> press.rename(name, 5));
            Check.fails("rename(2, " + name + ")", ARGUMENT, press, () -> press.rename(2, name));
            Check.fails("rename(50, " + name + ")", ARGUMENT, press, () -> press.rename(50, name));
        }
        Check.fails("rename(2, 2)", ARGUMENT, press, () -> press.rename(2, 2));
        Check.fails("rename(50, 50)", ARGUMENT, press, () -> press.rename(50, 50));
        Check.fails("rename(50, 2)", ELEMENT, press, () -> press.rename(50, 2));
        Check.fails("rename(2, 99)", UNSUPPORTED, press, () -> press.rename(2, 99));
        press.pin(6, 6, true);
        Check.fails("one is pinned", UNSUPPORTED, press, () -> press.rename(99, 5));
        Check.same("another one is pinned", 1, press.rename(2, 5));
        Check.same("the pinned ones stay", "n99:1 c1 { n99:2 n5:3 } n99:4!", Texts.show(press));
        LintPress pinnedFirst = Texts.make("n1:1! n1:2");
        Check.fails("the first one is pinned", UNSUPPORTED, pinnedFirst, () -> pinnedFirst.rename(1, 5));
        Check.fails("pinned, and does not occur", ELEMENT, pinnedFirst, () -> pinnedFirst.rename(2, 1));
        Check.same("comments have no name 0", "NoSuchElementException",
                Check.thrownBy(() -> Texts.make("c1 { }").rename(0, 1)));
        Check.same("comments do not keep a name from being used", 1, Texts.make("c1 n1:1").rename(1, 0));
    }

    private static void move() {
        Check.group("promise 26");
        LintPress press = Texts.make("n0:1 n1:2 c3 n3:4 n4:5");
        press.layOut();
        Check.same("to the right", 3, press.move(0, 3));
        Check.same("isLaidOut", false, press.isLaidOut());
        Check.same("text", "n1:2 c3 n3:4 n0:1 n4:5", Texts.show(press));
        Check.same("to the left", 4, press.move(4, 0));
        Check.same("text then", "n4:5 n1:2 c3 n3:4 n0:1", Texts.show(press));
        Check.same("a comment by one", 1, press.move(2, 1));
        Check.same("text at last", "n4:5 c3 n1:2 n3:4 n0:1", Texts.show(press));
        Check.same("weights stay", "10 8 6 4 5", Texts.weights(press));
        Check.same("three deeds", 2, press.undo());
        Check.same("two deeds", 1, press.undo());
        Check.same("one deed", 0, press.undo());
        Check.same("text as first", "n0:1 n1:2 c3 n3:4 n4:5", Texts.show(press));
        LintPress inBlock = Texts.make("{! n1:1 c2 }! n3:1!");
        Check.same("within a pinned block", 1, inBlock.move(1, 2));
        Check.same("text within the block", "{! c2 n1:1 }! n3:1!", Texts.show(inBlock));
    }

    private static void moveRefused() {
        LintPress press = Texts.make("n0:1 { n1:2 n2:2! }");
        for (int index : WRONG_FOR_FIVE) {
            Check.fails("move(" + index + ", 0)", INDEX, press, () -> press.move(index, 0));
            Check.fails("move(0, " + index + ")", INDEX, press, () -> press.move(0, index));
            Check.fails("move(" + index + ", same)", INDEX, press, () -> press.move(index, index));
        }
        Check.fails("move(2, 2)", ARGUMENT, press, () -> press.move(2, 2));
        Check.fails("move(1, 1) of a beginning", ARGUMENT, press, () -> press.move(1, 1));
        Check.fails("a beginning", UNSUPPORTED, press, () -> press.move(1, 0));
        Check.fails("an end", UNSUPPORTED, press, () -> press.move(4, 3));
        Check.fails("past a beginning", UNSUPPORTED, press, () -> press.move(2, 0));
        Check.fails("to a beginning", UNSUPPORTED, press, () -> press.move(2, 1));
        Check.fails("past a pinned one", UNSUPPORTED, press, () -> press.move(2, 3));
        Check.fails("a pinned one", UNSUPPORTED, press, () -> press.move(3, 2));
        press.pin(3, 3, false);
        Check.fails("past an end", UNSUPPORTED, press, () -> press.move(3, 4));
        Check.fails("no deed was kept", STATE, press, press::undo);
        Check.same("neither pinned now", 1, press.move(3, 2));
    }

    private static void undo() {
        Check.group("promise 27");
        LintPress press = Texts.make("n1:1 n1:2 { c3 } c4 c5 { n2:6 } { }");
        String first = Texts.show(press);
        Check.fails("nothing to undo", STATE, press, press::undo);
        press.fixBest();
        String second = Texts.show(press);
        press.rename(1, 3);
        String third = Texts.show(press);
        press.move(4, 5);
        press.layOut();
        Check.same("two left", 2, press.undo());
        Check.same("isLaidOut", false, press.isLaidOut());
        Check.same("behind the rename", third, Texts.show(press));
        Check.same("one left", 1, press.undo());
        Check.same("behind the fixes", second, Texts.show(press));
        Check.same("none left", 0, press.undo());
        Check.same("as first", first, Texts.show(press));
        Check.fails("nothing left to undo", STATE, press, press::undo);
        Check.same("what was undone", "1 1 1 1 1", Texts.undone(press));
        press.setWidth(20);
        press.rename(1, 3);
        press.setWidth(30);
        press.undo();
        Check.same("an undo leaves the width", 30, press.setWidth(30));
    }

    private static void lastTenDeeds() {
        LintPress press = Texts.make("n0:1");
        for (int deed = 1; deed <= 12; deed++) {
            press.rename(deed - 1, deed);
        }
        for (int left = 9; left >= 0; left--) {
            Check.same("deeds left", left, press.undo());
            Check.same("name", left + 2, press.nameOf(0));
        }
        Check.fails("an eleventh", STATE, press, press::undo);
        press.rename(2, 50);
        press.rename(50, 51);
        Check.same("one of two", 1, press.undo());
        press.rename(50, 60);
        Check.same("one of two again", 1, press.undo());
        Check.same("none", 0, press.undo());
        Check.same("name as it was", 2, press.nameOf(0));
        press.rename(2, 3);
        press.addName(4, 4);
        Check.fails("an entry was added", STATE, press, press::undo);
        press.move(0, 1);
        Check.same("only the deed behind it", 0, press.undo());
    }

    private static void undoOfPins() {
        LintPress press = Texts.make("n1:1! n2:2 n2:3 n3:4!");
        press.fix(0);
        press.pin(0, 2, false);
        press.pin(1, 1, true);
        press.undo();
        Check.same("with their pins", "n1:1! n2:2 n2:3 n3:4!", Texts.show(press));
    }

    private static void weight() {
        Check.group("promise 28");
        LintPress press = Texts.make("n1:1 n1:2");
        int[] ahead = {10, 8, 6, 4, 5};
        for (int rule = 0; rule < 5; rule++) {
            Check.same("weight(" + rule + ")", ahead[rule], press.weight(rule));
        }
        int[] behind = {8, 6, 5, 4, 3, 3, 3};
        for (int due : behind) {
            press.fix(0);
            press.undo();
            Check.same("weight when undone", due, press.weight(0));
        }
        for (int rule : new int[] {-1, 5, Integer.MIN_VALUE, Integer.MAX_VALUE}) {
            Check.fails("weight(" + rule + ")", ARGUMENT, press, () -> press.weight(rule));
        }
        LintPress several = Texts.make("n1:1 n1:1 n1:1 n1:1");
        several.fixBest();
        Check.same("weight of two fixes", 12, several.weight(0));
        several.undo();
        Check.same("undone one by one: 12, 9, 6", 6, several.weight(0));
    }

    private static void weightAtItsEnds() {
        LintPress press = Texts.make(Texts.repeat("c1", 30));
        for (int times = 0; times < 12; times++) {
            press.fixBest();
            if (press.findings() == 0) {
                Texts.add(press, Texts.repeat("c1", 29));
            }
        }
        for (int times = 0; times < 20 && press.weight(3) < 99; times++) {
            if (press.findings() == 0) {
                Texts.add(press, Texts.repeat("c1", 29));
            }
            press.fixBest();
        }
        Check.same("the greatest weight", 99, press.weight(3));
        if (press.findings() == 0) {
            Texts.add(press, "c1 c1");
        }
        press.fix(0);
        Check.same("no greater than 99", 99, press.weight(3));
        press.undo();
        Check.same("99 less by 25", 74, press.weight(3));
        LintPress weak = Texts.make(Texts.repeat("c1", 10));
        weak.fixBest();
        weak.undo();
        Check.same("9 undone five times: 6, 4, 3, 2, 1", 1, weak.weight(3));
        weak.fixBest();
        weak.undo();
        Check.same("6 undone five times: 4, 3, 2, 1, 0", 0, weak.weight(3));
        Check.same("the others stay", "10 8 6 0 5", Texts.weights(weak));
    }

    private static void ruleAt() {
        Check.group("promise 29");
        LintPress press = Texts.make("n1:1 n1:2 { n3:3 }");
        Check.same("ranks", "0 1 2 4 3", Texts.ranks(press));
        press.fix(1);
        Check.same("2 and 4 weigh 6 both", "0 1 2 4 3", Texts.ranks(press));
        press.undo();
        Check.same("3 and 4 weigh 4 both", "0 1 2 3 4", Texts.ranks(press));
        press.fix(0);
        press.undo();
        Check.same("0 and 1 weigh 8 both", "0 1 2 3 4", Texts.ranks(press));
        press.fix(0);
        press.undo();
        Check.same("0 and 2 weigh 6 both", "1 0 2 3 4", Texts.ranks(press));
        for (int rank : new int[] {-1, 5, Integer.MIN_VALUE, Integer.MAX_VALUE}) {
            Check.fails("ruleAt(" + rank + ")", ELEMENT, press, () -> press.ruleAt(rank));
        }
    }

    private static void undone() {
        Check.group("promise 30");
        LintPress press = Texts.make("n1:1 n1:2 n1:3 n1:4 { } { c1 }");
        press.fixBest();
        Check.same("fixed only", "0 0 0 0 0", Texts.undone(press));
        press.undo();
        Check.same("each fix counts", "2 1 1 0 0", Texts.undone(press));
        press.fix(0);
        press.undo();
        Check.same("one more", 3L, press.undone(0));
        press.rename(1, 2);
        press.undo();
        Check.same("a rename is no fix", "3 1 1 0 0", Texts.undone(press));
        for (int rule : new int[] {-1, 5, Integer.MIN_VALUE, Integer.MAX_VALUE}) {
            Check.fails("undone(" + rule + ")", ARGUMENT, press, () -> press.undone(rule));
        }
    }

    private static void undoneShare() {
        Check.group("promise 31");
        LintPress press = Texts.make("n1:1 n1:2 n3:3 n3:4 n5:5 n5:6");
        Check.fails("nothing fixed", ArithmeticException.class, press, press::undoneShare);
        press.rename(1, 7);
        press.undo();
        Check.fails("only renamed", ArithmeticException.class, press, press::undoneShare);
        press.fix(2);
        Check.same("0 of 1", 0.0f, press.undoneShare());
        press.undo();
        Check.same("1 of 1", 1.0f, press.undoneShare());
        press.fixBest();
        Check.same("1 of 4", 0.25f, press.undoneShare());
        press.undo();
        Check.same("4 of 4", 1.0f, press.undoneShare());
        press.fix(0);
        press.fix(0);
        Check.same("4 of 6", 4.0f / 6.0f, press.undoneShare());
    }
}
