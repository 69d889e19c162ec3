import java.util.NoSuchElementException;

/** Promises 15 to 24. */
final class FindingsTest {
    private static final Class<IllegalStateException> STATE = IllegalStateException.class;
    private static final Class<NoSuchElementException> ELEMENT = NoSuchElementException.class;
    private static final Class<UnsupportedOperationException> UNSUPPORTED = UnsupportedOperationException.class;
    private static final int[] WRONG_FOR_TWO = {-1, 2, 29, 30, 31, Integer.MIN_VALUE, Integer.MAX_VALUE};
    private static final String TWO = "n1:1 n1:2 { n3:1 }";

    private FindingsTest() {
    }

    static void run() {
        findings();
        ruleOf();
        firstOf();
        lastOf();
        canFix();
        best();
        bestByTrying();
        leastWeight();
        isInBest();
        fix();
        fixedEntries();
        fixBest();
    }

    private static void findings() {
        Check.group("promise 15");
        Check.same("nothing", 0, new LintPress().findings());
        Check.same("one entry", 0, Texts.make("n1:1").findings());
        Check.same("other names", 0, Texts.make("n1:1 n2:1 n1:1").findings());
        Check.same("same names", 2, Texts.make("n1:1 n1:9 n1:1").findings());
        Check.same("names apart", 0, Texts.make("n1:1 c1 n1:1 { n1:1 n2:1 }").findings());
        Check.same("end and beginning", 2, Texts.make("{ } { }").findings());
        Check.same("two ends", 1, Texts.make("{ { } }").findings());
        Check.same("comment and beginning", 0, Texts.make("c1 {").findings());
        Check.same("comment and end", 1, Texts.make("{ c1 }").findings());
        Check.same("comment in a block and its end", 1, Texts.make("{ n1:1 c1 }").findings());
        Check.same("comments", 2, Texts.make("c1 c2 c3").findings());
        Check.same("two names in a block", 0, Texts.make("{ n1:1 n2:1 }").findings());
        Check.same("one name in a block not ended", 0, Texts.make("{ n1:1").findings());
        Check.same("pinned ones are found too", 1, Texts.make("n1:1! n1:1!").findings());
        Check.same("all that can be", 29, Texts.make(Texts.repeat("n1:1", 30)).findings());
        Check.same("comments and an end", 26, Texts.make("{ { " + Texts.repeat("c1", 26) + " } }").findings());
    }

    private static void ruleOf() {
        Check.group("promise 16");
        LintPress press = Texts.make("n1:1 n1:2 { } { c1 c2 } { n1:1 }");
        int[] rules = {0, 1, 3, 2, 4};
        Check.same("findings", rules.length, press.findings());
        for (int finding = 0; finding < rules.length; finding++) {
            Check.same("ruleOf(" + finding + ")", rules[finding], press.ruleOf(finding));
        }
        LintPress two = Texts.make(TWO);
        for (int finding : WRONG_FOR_TWO) {
            Check.fails("ruleOf(" + finding + ")", ELEMENT, two, () -> two.ruleOf(finding));
        }
    }

    private static void firstOf() {
        Check.group("promise 17");
        LintPress press = Texts.make("n1:1 n1:2 { } { c1 c2 } { n1:1 }");
        int[] firsts = {0, 2, 5, 6, 8};
        for (int finding = 0; finding < firsts.length; finding++) {
            Check.same("firstOf(" + finding + ")", firsts[finding], press.firstOf(finding));
        }
        LintPress two = Texts.make(TWO);
        for (int finding : WRONG_FOR_TWO) {
            Check.fails("firstOf(" + finding + ")", ELEMENT, two, () -> two.firstOf(finding));
        }
    }

    private static void lastOf() {
        Check.group("promise 18");
        LintPress press = Texts.make("n1:1 n1:2 { } { c1 c2 } { n1:1 }");
        int[] lasts = {1, 3, 6, 7, 10};
        for (int finding = 0; finding < lasts.length; finding++) {
            Check.same("lastOf(" + finding + ")", lasts[finding], press.lastOf(finding));
        }
        LintPress two = Texts.make(TWO);
        for (int finding : WRONG_FOR_TWO) {
            Check.fails("lastOf(" + finding + ")", ELEMENT, two, () -> two.lastOf(finding));
        }
    }

    private static void canFix() {
        Check.group("promise 19");
        Check.same("none pinned", true, Texts.make("n1:1 n1:2").canFix(0));
        Check.same("first pinned", false, Texts.make("n1:1! n1:2").canFix(0));
        Check.same("second pinned", false, Texts.make("n1:1 n1:2!").canFix(0));
        Check.same("middle pinned", false, Texts.make("{ n1:1! }").canFix(0));
        Check.same("third pinned", false, Texts.make("{ n1:1 }!").canFix(0));
        Check.same("others pinned", true, Texts.make("c1! { n1:1 } c2!").canFix(0));
        LintPress weak = weightless(3);
        Check.same("weight 0", false, weak.canFix(0));
        Check.fails("fix with weight 0", UNSUPPORTED, weak, () -> weak.fix(0));
        LintPress two = Texts.make(TWO);
        for (int finding : WRONG_FOR_TWO) {
            Check.fails("canFix(" + finding + ")", ELEMENT, two, () -> two.canFix(finding));
        }
    }

    /** A text of ten comments; a best set of five fixes of rule 3 is undone until its weight is 0. */
    private static LintPress weightless(int rule) {
        LintPress press = Texts.make(Texts.repeat("c1", 10));
        for (int times = 0; times < 20 && press.weight(rule) > 0; times++) {
            press.fixBest();
            press.undo();
        }
        return press;
    }

    private static void best() {
        Check.group("promise 20");
        Check.same("nothing", 0, new LintPress().best());
        Check.same("one", 10, Texts.make("n1:1 n1:1").best());
        Check.same("clash", 10, Texts.make("n1:1 n1:1 n1:1").best());
        Check.same("two of three", 20, Texts.make("n1:1 n1:1 n1:1 n1:1").best());
        Check.same("heavier one of two", 6, Texts.make("{ c1 c1 }").best());
        Check.same("both ends of a chain", 10, Texts.make("{ c1 c1 c1 }").best());
        Check.same("pinned", 0, Texts.make("n1:1! n1:1").best());
        Check.same("pinned middle", 20, Texts.make("n1:1 n1:1 n1:1! n1:1 n1:1").best());
        Check.same("weight 0", 0, weightless(3).best());
        Check.same("full", 150, Texts.make(Texts.repeat("n1:1", 30)).best());
        Check.same("rule 4", 5, Texts.make("{ n1:1 }").best());
    }

    private static void bestByTrying() {
        Check.group("promise 21");
        Check.same("nothing", 0, new LintPress().bestByTrying());
        LintPress twelve = Texts.make(Texts.repeat("n1:1", 13));
        Check.same("twelve", 60, twelve.bestByTrying());
        LintPress thirteen = Texts.make(Texts.repeat("n1:1", 14));
        Check.fails("thirteen", UNSUPPORTED, thirteen, thirteen::bestByTrying);
        thirteen.pin(0, 0, true);
        Check.same("thirteen, twelve of which can be fixed", 60, thirteen.bestByTrying());
        LintPress apart = Texts.make(Texts.repeat("n1:1 n1:1 c1", 10));
        Check.same("ten apart", 100, apart.bestByTrying());
        Check.same("heavier one of two", 6, Texts.make("{ c1 c1 }").bestByTrying());
        Check.same("a block's name", 5, Texts.make("{ n1:1 }").bestByTrying());
        Check.same("full with weight 0", 0, weightless(3).bestByTrying());
        LintPress pinned = Texts.make(Texts.repeat("n1:1!", 30));
        Check.same("all pinned", 0, pinned.bestByTrying());
    }

    /** Five fixes of rule 3 make the weight 9, and undone they make it 1: that is still greater than 0. */
    private static void leastWeight() {
        LintPress press = Texts.make(Texts.repeat("c1", 10));
        press.fixBest();
        press.undo();
        Check.same("weight", 1, press.weight(3));
        Check.same("can be fixed with weight 1", true, press.canFix(0));
        Check.same("sum with weight 1", 5, press.best());
        Check.same("sum by trying with weight 1", 5, press.bestByTrying());
        Check.same("entries when fixed with weight 1", 9, press.fix(0));
        Check.same("weight then", 2, press.weight(3));
    }

    private static void isInBest() {
        Check.group("promise 22");
        Check.same("first of two that are as good", "0@0-1+* 0@1-2+", Texts.findings(Texts.make("n1:1 n1:1 n1:1")));
        Check.same("heavier one behind", "3@1-2+ 2@2-3+*", Texts.findings(Texts.make("{ c1 c1 }")));
        Check.same("both ends of a chain", "3@1-2+* 3@2-3+ 2@3-4+*", Texts.findings(Texts.make("{ c1 c1 c1 }")));
        Check.same("pinned one is not in it", "0@0-1 0@1-2+*", Texts.findings(Texts.make("n1:1! n1:1 n1:1")));
        Check.same("nor is a pinned one alone", "0@0-1", Texts.findings(Texts.make("n1:1! n1:1")));
        Check.same("nor one with weight 0", false, weightless(3).isInBest(0));
        Check.same("first ones of a chain of five", "0@0-1+* 0@1-2+ 0@2-3+* 0@3-4+",
                Texts.findings(Texts.make(Texts.repeat("n1:1", 5))));
        Check.same("rule 4", "4@0-2+*", Texts.findings(Texts.make("{ n1:1 }")));
        LintPress two = Texts.make(TWO);
        for (int finding : WRONG_FOR_TWO) {
            Check.fails("isInBest(" + finding + ")", ELEMENT, two, () -> two.isInBest(finding));
        }
    }

    private static void fix() {
        Check.group("promise 23");
        LintPress press = Texts.make(TWO);
        Check.same("entries then", 3, press.fix(1));
        Check.same("weight then", 6, press.weight(4));
        Check.same("text then", "n1:1 n1:2 n3:1", Texts.show(press));
        Check.same("entries at last", 2, press.fix(0));
        Check.same("weights at last", "11 8 6 4 6", Texts.weights(press));
        Check.fails("no finding left", ELEMENT, press, () -> press.fix(0));
        for (int finding : WRONG_FOR_TWO) {
            LintPress two = Texts.make(TWO);
            Check.fails("fix(" + finding + ")", ELEMENT, two, () -> two.fix(finding));
        }
        LintPress pinned = Texts.make("n1:1 n1:2!");
        Check.fails("pinned", UNSUPPORTED, pinned, () -> pinned.fix(0));
        Check.fails("pinned, and no such finding", ELEMENT, pinned, () -> pinned.fix(1));
        Check.fails("no deed was kept", STATE, pinned, pinned::undo);
        LintPress laidOut = Texts.make("{ c1 }");
        laidOut.layOut();
        laidOut.fix(0);
        Check.same("isLaidOut", false, laidOut.isLaidOut());
        LintPress clashing = Texts.make("n1:1 n1:2 n1:3");
        Check.same("one that is not in the best set", 2, clashing.fix(1));
        Check.same("the third name is taken away", "n1:1 n1:2", Texts.show(clashing));
    }

    private static void fixedEntries() {
        checkFix("rule 0", "c1 n1:1 n1:2 c2", "c1 n1:1 c2");
        checkFix("rule 1", "n1:1 { } n1:2", "n1:1 n1:2");
        checkFix("rule 2", "{ n1:1 c7 } n2:1", "{ n1:1 } c7 n2:1");
        checkFix("rule 3", "n1:1 c3 c4 n1:2", "n1:1 c7 n1:2");
        checkFix("rule 3, at most 9", "c9 c9 n1:1!", "c9 n1:1!");
        checkFix("rule 3, just 9", "c4 c5", "c9");
        checkFix("rule 3, 10", "c5 c5", "c9");
        checkFix("rule 4", "c1 { n1:5 } c2", "c1 n1:5 c2");
    }

    private static void checkFix(String what, String before, String due) {
        LintPress press = Texts.make(before);
        int rule = press.ruleOf(0);
        int weight = press.weight(rule);
        press.fix(0);
        Check.same(what, due, Texts.show(press));
        Check.same(what + ", the weight", weight + 1, press.weight(rule));
    }

    private static void fixBest() {
        Check.group("promise 24");
        LintPress press = Texts.make("n1:1 n1:2 n1:3 n1:4 { } { n2:1 c1 } c2 c3 { n3:3 } c4!");
        Check.same("findings", "0@0-1+* 0@1-2+ 0@2-3+* 1@4-5+* 2@8-9+* 3@10-11+* 4@12-14+*", Texts.findings(press));
        Check.same("fixed", 6, press.fixBest());
        Check.same("text", "n1:1 n1:3 { n2:1 } c1 c5 n3:3 c4!", Texts.show(press));
        Check.same("weights", "12 9 7 5 6", Texts.weights(press));
        Check.same("findings then", "0@0-1+* 4@2-4+* 3@5-6+*", Texts.findings(press));
        Check.same("fixed then", 3, press.fixBest());
        Check.same("text then", "n1:1 n2:1 c6 n3:3 c4!", Texts.show(press));
        Check.fails("nothing to fix", STATE, press, press::fixBest);
        LintPress pinned = Texts.make("n1:1! n1:2");
        Check.fails("pinned", STATE, pinned, pinned::fixBest);
        LintPress weak = weightless(3);
        Check.fails("weight 0", STATE, weak, weak::fixBest);
        LintPress nothing = new LintPress();
        Check.fails("nothing", STATE, nothing, nothing::fixBest);
        Check.fails("no deed was kept", STATE, nothing, nothing::undo);
        LintPress laidOut = Texts.make("{ c1 }");
        laidOut.layOut();
        laidOut.fixBest();
        Check.same("isLaidOut", false, laidOut.isLaidOut());
        LintPress full = Texts.make(Texts.repeat("n1:1", 30));
        Check.same("fifteen", 15, full.fixBest());
        Check.same("weight", 25, full.weight(0));
        Check.same("one deed", 0, full.undo());
        Check.same("all thirty again", 30, full.entries());
    }
}
