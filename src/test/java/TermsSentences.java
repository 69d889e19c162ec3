import java.util.List;
import java.util.NoSuchElementException;
import java.util.function.Consumer;

/** What the document says ahead of its promises, sentence by sentence. */
final class TermsSentences {
    private static final Class<IllegalArgumentException> ARGUMENT = IllegalArgumentException.class;
    private static final Class<IllegalStateException> STATE = IllegalStateException.class;
    private static final Class<IndexOutOfBoundsException> INDEX = IndexOutOfBoundsException.class;
    private static final Class<NoSuchElementException> ELEMENT = NoSuchElementException.class;
    private static final Class<UnsupportedOperationException> UNSUPPORTED = UnsupportedOperationException.class;
    private static final int TERMS = Sentences.TERMS;

    private TermsSentences() {
    }

    static void run() {
        whole();
        calls();
        asking();
        entries();
        depths();
        rules();
        numbers();
        fixes();
        fixable();
        clashes();
        bestSets();
        weights();
        weightsUndone();
        deeds();
        lastTen();
        ring();
        pinsOfDeeds();
        entriesAdded();
        widths();
        costs();
        pinnedLines();
        ways();
        layoutsEnded();
        exceptions();
        severalExceptions();
        clarifications();
    }

    private static LintPress at(int width, String writing) {
        LintPress press = Texts.make(writing);
        press.setWidth(width);
        return press;
    }

    private static LintPress laidOutAt(int width, String writing) {
        LintPress press = at(width, writing);
        press.layOut();
        return press;
    }

    private static void whole() {
        Sentences.of(TERMS, "A formatter with a linter: a text is a row of names, comments and blocks, which is laid out in lines "
                + "at the least cost, rules find places that can be fixed, fixes that do not clash are chosen as the best set, "
                + "names are renamed and moved so that the meaning is kept, spans are pinned, and a rule whose fixes are undone "
                + "loses weight.");
        LintPress press = at(13, "n1:4 n1:4 { c6 }");
        Check.same("lines", "3 2", linesOf(press));
        Check.same("fixed", 2, press.fixBest());
        Check.same("renamed", 1, press.rename(1, 2));
        Check.same("pinned", 2, press.pin(0, 1, true));
        Check.same("text", "n2:4! {! } c6", Texts.show(press));
        Check.same("undone", 1, press.undo());
        Check.same("undone", 0, press.undo());
        Check.same("text again", "n1:4 n1:4 { c6 }", Texts.show(press));
        Check.same("weights lost", "8 8 5 4 5", Texts.weights(press));
    }

    private static String linesOf(LintPress press) {
        press.layOut();
        return Texts.lines(press);
    }

    /** Told calls, a deed at each fourth one, and as the last ones of 512 calls what they must have left. */
    private static void calls() {
        Sentences.of(TERMS, "An object is used for at most 512 calls after it has been made; what later calls answer is free.");
        LintPress press = Texts.make("n1:1 n1:2");
        for (int times = 0; times < 127; times++) {
            press.fix(0);
            press.layOut();
            press.undo();
            press.cost();
        }
        Check.same("the 511th call", 127L, press.undone(0));
        Check.same("the 512th call", 1.0f, press.undoneShare());
    }

    private static void asking() {
        Sentences.of(TERMS, "Entries, fixes, undos and renames come by calls; findings, layouts and weights are asked.");
        LintPress asked = Samples.used();
        for (int times = 0; times < 3; times++) {
            Texts.state(asked);
            Check.thrownBy(asked::bestByTrying);
            Check.thrownBy(asked::costByTrying);
            Check.thrownBy(asked::meanWidth);
            Check.thrownBy(asked::commonest);
            asked.depthOf(0);
            asked.occurrences(1);
            asked.lineWidth(0);
            Texts.ranks(asked);
            Texts.undone(asked);
        }
        Check.same("asking changes nothing", Texts.history(Samples.used()), Texts.history(asked));
        Sentences.of(TERMS, "Costs and best sets are found, and found by trying all.");
        LintPress few = at(13, "n1:4 n1:5 c3 c4 { c5 c6 }");
        Check.same("costs", few.cost(), few.costByTrying());
        Check.same("best sets", few.best(), few.bestByTrying());
        Sentences.of(TERMS, "Laying out twice changes nothing.");
        LintPress twice = Samples.used();
        Check.same("lines", twice.layOut(), twice.layOut());
        Check.same("all that can be asked", Texts.history(Samples.used()), Texts.history(twice));
    }

    private static void entries() {
        Sentences.of(TERMS, "A text is a row of at most 30 entries: a name, 'n', which is a number from 0 to 99 with a length from "
                + "1 to 9; a comment, 'c', with a length from 1 to 9; the beginning of a block, '{', and its end, '}'.");
        String all = "n0:1 n99:9 n0:9 n99:1 c1 c9 { }";
        LintPress press = Texts.make(all);
        Check.same("all bounds", all, Texts.show(press));
        Texts.add(press, Texts.repeat("n1:1", 22));
        Check.same("30 entries", 30, press.entries());
        Check.fails("a 31st name", STATE, press, () -> press.addName(1, 1));
        Check.fails("a 31st comment", STATE, press, () -> press.addComment(1));
        Check.fails("a 31st beginning", STATE, press, press::begin);
        Check.fails("a 31st end", STATE, press, press::end);
        Check.fails("no name", ARGUMENT, new LintPress(), () -> new LintPress().addName(-1, 1));
        Sentences.of(TERMS, "An entry can be pinned.");
        Check.same("each kind", "n1:1! c1! {! }! n2:1", Texts.show(Texts.make("n1:1! c1! {! }! n2:1")));
        Sentences.of(TERMS, "Blocks need not be ended.");
        LintPress open = laidOutAt(13, "{ { c8 n1:9 { n1:1 } { c1 }");
        Check.same("lines", "2 1 3 4", Texts.lines(open));
        Check.same("findings", "4@4-6+* 2@8-9+*", Texts.findings(open));
        Check.same("depth of the last end", 2, open.depthOf(9));
        Check.same("depth of one more end", 1, open.end());
    }

    private static void depths() {
        Sentences.of(TERMS, "The depth of an entry is the number of blocks that have begun ahead of it and not ended ahead of it; "
                + "for an end, the block that it ends is not counted.");
        LintPress press = Texts.make("n1:1 { } { { c1 } n1:1 } c1");
        int[] depths = {0, 0, 0, 0, 1, 2, 1, 1, 0, 0};
        for (int index = 0; index < depths.length; index++) {
            Check.same("of " + index, depths[index], press.depthOf(index));
        }
        press.fix(1);
        Check.same("text", "n1:1 { } { { } c1 n1:1 } c1", Texts.show(press));
        Check.same("of the comment, behind the end now", 1, press.depthOf(6));
        press.fix(0);
        Check.same("of a beginning, less a block ahead", 0, press.depthOf(1));
    }

    private static void rules() {
        Sentences.of(TERMS, "Rule 0: two names that are the same, one right behind the other.");
        Check.same("right behind", "0@0-1+*", Texts.findings(Texts.make("n0:1 n0:2")));
        Check.same("other names", "", Texts.findings(Texts.make("n0:1 n1:1")));
        Check.same("one between", "", Texts.findings(Texts.make("n0:1 c1 n0:1 n1:1 n0:1 { n0:1")));
        Sentences.of(TERMS, "Rule 1: a beginning with its end right behind it.");
        Check.same("right behind", "1@1-2+*", Texts.findings(Texts.make("{ { } n1:1 c1 n1:1 }")));
        Check.same("never ended", "", Texts.findings(Texts.make("{ {")));
        Sentences.of(TERMS, "Rule 2: a comment with an end right behind it.");
        Check.same("right behind", "2@2-3+*", Texts.findings(Texts.make("{ n1:1 c1 }")));
        Check.same("an end with a comment right behind it", "1@0-1+*", Texts.findings(Texts.make("{ } c1")));
        Check.same("a comment with a beginning right behind it", "1@1-2+*", Texts.findings(Texts.make("c1 { }")));
        Sentences.of(TERMS, "Rule 3: two comments, one right behind the other.");
        Check.same("right behind", "3@0-1+*", Texts.findings(Texts.make("c1 c9")));
        Check.same("one between", "", Texts.findings(Texts.make("c1 n1:1 c1 { c1 n1:1")));
        Sentences.of(TERMS, "Rule 4: a beginning, a name and an end, each right behind the one ahead.");
        Check.same("right behind", "4@1-3+*", Texts.findings(Texts.make("{ { n1:1 } }")));
        Check.same("two names", "", Texts.findings(Texts.make("{ n1:1 n2:1 }")));
        Check.same("no end", "", Texts.findings(Texts.make("{ n1:1 {")));
        Check.same("no end at the end", "", Texts.findings(Texts.make("{ n1:1")));
        Check.same("a comment is no name", "2@1-2+*", Texts.findings(Texts.make("{ c1 }")));
    }

    private static void numbers() {
        Sentences.of(TERMS, "A finding has a rule, a first and a last entry.");
        LintPress press = Texts.make("c1 { n1:1 }");
        Check.same("rule, first, last", "4 1 3", press.ruleOf(0) + " " + press.firstOf(0) + " " + press.lastOf(0));
        Sentences.of(TERMS, "The findings are numbered from 0 by their first entries; those with the same first one by their last "
                + "ones, then by rules.");
        Check.same("the first entries alone tell them apart", "4@0-2+* 3@3-4+* 3@4-5+ 1@6-7+* 0@8-9+*",
                Texts.findings(Texts.make("{ n1:1 } c1 c1 c1 { } n1:1 n1:1")));
        Check.same("nested ones", "2@2-3+* 3@5-6+* 3@6-7+ 2@7-8+*", Texts.findings(Texts.make("{ { c1 } n1:1 c1 c1 c1 }")));
    }

    private static void fixes() {
        Sentences.of(TERMS, "The fix for rule 0 takes the second name away; for rule 1 both entries; for rule 2 it changes the "
                + "places of both; for rule 3 it makes one comment of both, with the sum of their lengths, but at most 9; for "
                + "rule 4 it takes the beginning and the end away.");
        String[][] cases = {{"n1:3 n1:5", "n1:3"}, {"n1:1 { } c1", "n1:1 c1"}, {"{ n1:1 c9 } c1", "{ n1:1 } c9 c1"},
            {"c1 c1", "c2"}, {"c4 c4", "c8"}, {"c4 c5", "c9"}, {"c8 c1", "c9"}, {"c5 c5", "c9"}, {"c9 c1", "c9"}, {"c9 c9", "c9"},
            {"c2 { n7:5 } n1:1", "c2 n7:5 n1:1"}, {"{! n1:2 n1:3 }!", "{! n1:2 }!"}, {"{ { } }!", "{ }!"},
            {"n2:2! { n1:2 } n3:3!", "n2:2! n1:2 n3:3!"}};
        for (String[] pair : cases) {
            LintPress press = Texts.make(pair[0]);
            press.fix(0);
            Check.same(pair[0] + " fixed", pair[1], Texts.show(press));
        }
    }

    private static void fixable() {
        Sentences.of(TERMS, "A finding can be fixed if none of its entries is pinned and the weight of its rule is greater than 0.");
        Check.same("those around are pinned", "4@1-3+*", Texts.findings(Texts.make("n1:1! { n1:1 } c1!")));
        Check.same("one of them is pinned", "4@1-3", Texts.findings(Texts.make("n1:1 { n1:1! } c1")));
        LintPress weightOne = Texts.make(Texts.repeat("c1", 10));
        weightOne.fixBest();
        weightOne.undo();
        Check.same("weight 1", "1 true", weightOne.weight(3) + " " + weightOne.canFix(0));
        Check.same("the best set with weight 1", "5 5", weightOne.best() + " " + weightOne.bestByTrying());
        Check.same("a fix with weight 1", 9, weightOne.fix(0));
        weightOne.undo();
        Check.same("weight 2 less by 1", 1, weightOne.weight(3));
        weightOne.fixBest();
        weightOne.undo();
        Check.same("weight 0", "0 false", weightOne.weight(3) + " " + weightOne.canFix(0));
    }

    private static void clashes() {
        Sentences.of(TERMS, "Two findings clash if they have an entry in common.");
        Check.same("one entry in common", "3@1-2+ 2@2-3+*", Texts.findings(Texts.make("{ c1 c1 }")));
        Check.same("none in common, side by side", "0@0-1+* 1@2-3+*", Texts.findings(Texts.make("n1:1 n1:1 { }")));
        Check.same("no third one ahead of a fourth", "4@0-2+* 0@3-4+*", Texts.findings(Texts.make("{ n1:1 } n1:1 n1:1")));
    }

    private static void bestSets() {
        Sentences.of(TERMS, "The best set is, of all sets of findings that can be fixed, no two of which clash, one with the "
                + "greatest sum of the weights of their rules.");
        Check.same("no findings", 0, new LintPress().best());
        Check.same("one that weighs more", 6, Texts.make("{ c1 c1 }").best());
        Check.same("two that weigh more together", 10, Texts.make("{ c1 c1 c1 }").best());
        Check.same("two of three", 20, Texts.make(Texts.repeat("n1:1", 4)).best());
        Check.same("a chain in two by a pin", 20, Texts.make("n1:1 n1:1 n1:1! n1:1 n1:1").best());
        Sentences.of(TERMS, "Of several, findings are gone through by their numbers, and each one is in it that is in one of the "
                + "best sets that have all those in them that were taken ahead.");
        Check.same("two as good", "0@0-1+* 0@1-2+", Texts.findings(Texts.make(Texts.repeat("n1:1", 3))));
        Check.same("three as good", "0@0-1+* 0@1-2+ 0@2-3+* 0@3-4+", Texts.findings(Texts.make(Texts.repeat("n1:1", 5))));
        Check.same("the first one is pinned", "0@0-1 0@1-2+* 0@2-3+", Texts.findings(Texts.make("n1:1! n1:1 n1:1 n1:1")));
        LintPress even = Texts.make("c1 c1 n1:1 c1 c1 n1:1 { c1 c1 }");
        even.fix(0);
        even.fix(0);
        Check.same("rules 2 and 3 weigh 6 both", "3@5-6+* 2@6-7+", Texts.findings(even));
        even.fix(0);
        even.undo();
        Check.same("rule 3 weighs less", "3@5-6+ 2@6-7+*", Texts.findings(even));
    }

    private static void weights() {
        Sentences.of(TERMS, "When a finding is fixed, alone or in the best set, the weight of its rule becomes greater by 1, up to 99.");
        LintPress alone = Texts.make("c1 c1 { }");
        alone.fix(1);
        Check.same("alone", "10 9 6 4 5", Texts.weights(alone));
        LintPress best = Texts.make("n1:1 n1:1 n1:1 n1:1 { } { n1:1 c1 } n1:1 c1 c1 { n1:1 }");
        best.fixBest();
        Check.same("in the best set", "12 9 7 5 6", Texts.weights(best));
        LintPress heaviest = Samples.heaviest();
        Check.same("99", 99, heaviest.weight(0));
        heaviest.fix(0);
        Check.same("99 still", 99, heaviest.weight(0));
        heaviest.undo();
        Check.same("less by 25", 74, heaviest.weight(0));
        LintPress two = Texts.make(Texts.repeat("n1:1", 30));
        for (int fix = 1; fix <= 29; fix++) {
            two.fix(0);
            Check.same("behind " + fix, 10 + fix, two.weight(0));
        }
    }

    private static void weightsUndone() {
        Sentences.of(TERMS, "When this is undone, the weight becomes less by a quarter of it, rounded up; for several fixes, this "
                + "is done one by one.");
        LintPress one = Texts.make("n1:1 n1:1");
        int[] dues = {8, 6, 5, 4, 3, 3};
        for (int due : dues) {
            one.fix(0);
            one.undo();
            Check.same("one fix at a time: 11, 9, 7, 6, 5 and 4", due, one.weight(0));
        }
        LintPress two = Texts.make(Texts.repeat("n1:1", 4));
        two.fixBest();
        two.undo();
        Check.same("two fixes: 12, 9, 6", 6, two.weight(0));
        LintPress fifteen = Texts.make(Texts.repeat("n1:1", 30));
        fifteen.fixBest();
        fifteen.undo();
        Check.same("fifteen fixes: 25, 18, 13, 9, 6, 4, 3, 2, 1, 0, and 0 less by nothing", 0, fifteen.weight(0));
        Check.same("nothing can be fixed any more", false, fifteen.canFix(0));
        LintPress mixed = Texts.make("n1:1 n1:1 { } { n1:1 c1 } n1:1 c1 c1 { n1:1 }");
        mixed.fixBest();
        mixed.undo();
        Check.same("one of each rule: 11, 9, 7, 5, 6", "8 6 5 3 4", Texts.weights(mixed));
        LintPress apart = Texts.make(Texts.repeat("n1:1", 4));
        apart.fix(0);
        apart.fix(0);
        apart.undo();
        Check.same("the second of two alone: 12", 9, apart.weight(0));
        apart.undo();
        Check.same("and the first one: 9", 6, apart.weight(0));
    }

    private static void deeds() {
        Sentences.of(TERMS, "A deed is a fix, the fixes of a best set together, a rename or a move.");
        LintPress press = Texts.make("n1:1 n1:1 n2:1 n2:1 n3:1 n3:1 c1");
        press.fix(0);
        press.fixBest();
        press.rename(1, 4);
        press.move(0, 3);
        press.pin(0, 0, true);
        press.setWidth(50);
        press.layOut();
        Check.same("four deeds, less one", 3, press.undo());
        Check.same("the move undone", "n4:1 n2:1 n3:1 c1", Texts.show(press));
        Check.same("less the rename", 2, press.undo());
        Check.same("the rename undone", "n1:1 n2:1 n3:1 c1", Texts.show(press));
        Check.same("less the best set", 1, press.undo());
        Check.same("the best set undone", "n1:1 n2:1 n2:1 n3:1 n3:1 c1", Texts.show(press));
        Check.same("less the fix", 0, press.undo());
        Check.same("the fix undone", "n1:1 n1:1 n2:1 n2:1 n3:1 n3:1 c1", Texts.show(press));
        Check.fails("an undo is no deed", STATE, press, press::undo);
    }

    private static void lastTen() {
        Sentences.of(TERMS, "The last 10 deeds can be undone, the last one first: the entries are then as they were ahead of it, "
                + "with their pins.");
        for (int deeds = 1; deeds <= 25; deeds++) {
            LintPress press = renamedBy(deeds);
            int known = Math.min(deeds, 10);
            for (int left = known - 1; left >= 0; left--) {
                Check.same("left of " + deeds, left, press.undo());
                Check.same("name of " + deeds, deeds - known + left, press.nameOf(0));
            }
            Check.fails("one more than can be undone of " + deeds, STATE, press, press::undo);
        }
    }

    private static LintPress renamedBy(int deeds) {
        LintPress press = Texts.make("n0:1");
        for (int deed = 0; deed < deeds; deed++) {
            press.rename(deed, deed + 1);
        }
        return press;
    }

    /** Deeds in the places of deeds that were undone, or that are too long ago. */
    private static void ring() {
        LintPress press = Texts.make("n1:1 n1:1 n1:1 c1");
        press.fix(0);
        for (int deed = 0; deed < 10; deed++) {
            press.rename(deed + 1, deed + 2);
        }
        Check.same("ten renames behind a fix", "11 0", press.weight(0) + " " + press.undone(0));
        for (int left = 9; left >= 0; left--) {
            Check.same("left", left, press.undo());
        }
        Check.same("the fix is too long ago", "n1:1 n1:1 c1", Texts.show(press));
        Check.same("and keeps its weight", "11 0", press.weight(0) + " " + press.undone(0));
        LintPress again = renamedBy(10);
        for (int times = 0; times < 5; times++) {
            again.undo();
        }
        Check.same("five undone", 5, again.nameOf(0));
        for (int name = 5; name < 12; name++) {
            again.rename(name, name + 50);
            again.rename(name + 50, name + 1);
        }
        Check.same("fourteen more", 9, again.undo());
        Check.same("name then", 61, again.nameOf(0));
    }

    private static void pinsOfDeeds() {
        LintPress press = Texts.make("n1:1! c2 n2:2 n2:3 c3!");
        press.fix(0);
        press.pin(0, 3, true);
        press.undo();
        Check.same("as ahead of the fix", "n1:1! c2 n2:2 n2:3 c3!", Texts.show(press));
        press.move(1, 2);
        press.pin(0, 4, false);
        press.undo();
        Check.same("as ahead of the move", "n1:1! c2 n2:2 n2:3 c3!", Texts.show(press));
        press.rename(2, 3);
        press.pin(2, 2, true);
        press.undo();
        Check.same("as ahead of the rename", "n1:1! c2 n2:2 n2:3 c3!", Texts.show(press));
        press.fixBest();
        press.pin(0, 0, false);
        press.undo();
        Check.same("as ahead of the best set", "n1:1! c2 n2:2 n2:3 c3!", Texts.show(press));
    }

    private static void entriesAdded() {
        Sentences.of(TERMS, "When an entry is added, no deed can be undone any more.");
        Consumer<LintPress> name = press -> press.addName(1, 1);
        Consumer<LintPress> comment = press -> press.addComment(1);
        Consumer<LintPress> end = LintPress::end;
        Consumer<LintPress> begin = LintPress::begin;
        for (Consumer<LintPress> add : List.of(name, comment, end, begin)) {
            LintPress press = Texts.make("{ n1:1 n2:2 c3");
            press.rename(1, 3);
            press.move(1, 3);
            add.accept(press);
            Check.fails("no deed", STATE, press, press::undo);
            press.rename(3, 4);
            Check.same("but the next one", 0, press.undo());
        }
        LintPress full = Samples.full("{");
        Check.thrownBy(() -> full.addName(1, 1));
        Check.thrownBy(full::end);
        Check.same("a refused one takes none away", 1, full.undo());
    }

    private static void widths() {
        Sentences.of(TERMS, "A name is as wide as its length, a comment 4 wider than its length, a beginning and an end are 1 wide.");
        for (int length = 1; length <= 9; length++) {
            Check.same("name of " + length, length, Texts.make("n0:" + length).widthOf(0));
            Check.same("comment of " + length, length + 4, Texts.make("c" + length).widthOf(0));
        }
        Check.same("beginning and end", 2, Texts.make("{ }").widthOf(0) + Texts.make("{ }").widthOf(1));
        Sentences.of(TERMS, "A line is the widths of its entries with 1 between two.");
        Check.same("one entry", 9, laidOutAt(40, "n1:9").lineWidth(0));
        Check.same("two entries", 13, laidOutAt(40, "n1:9 n2:3").lineWidth(0));
        Check.same("all kinds", 5 + 1 + 7 + 1 + 1 + 1 + 1, laidOutAt(40, "n1:5 c3 { }").lineWidth(0));
        Check.same("thirty entries", 59, laidOutAt(60, Texts.repeat("n1:1", 30)).lineWidth(0));
    }

    private static void costs() {
        Sentences.of(TERMS, "It costs the square of what it is less wide than the width, but nothing if it is the last one; and 100 "
                + "for each 1 that it is wider.");
        Check.same("as wide", 0, at(13, "c9 c9").cost());
        Check.same("less by 1", 1, at(13, "c8 c9").cost());
        Check.same("less by 4", 16, at(13, "c5 c9").cost());
        Check.same("the last one, less by 12", 0, at(13, "c9 {").cost());
        Check.same("the last one alone", 0, at(60, "{").cost());
        Check.same("wider by 1", 100, at(13, "n1:9! n2:4! c9").cost());
        Check.same("wider by 2", 200, at(13, "n1:9! n2:5! c9").cost());
        Check.same("the last one, wider by 1", 100, at(13, "c9 n1:9! n2:4!").cost());
        Check.same("the last one alone, wider by 1", 100, at(13, "n1:9! n2:4!").cost());
        Check.same("wider by 1 rather than less by 12", 100, at(13, "{ c8 c9").cost());
        Check.same("wider by 1 rather than less by 10 and by 3", 100, at(13, "n1:3 n2:8! n3:1! c9").cost());
    }

    private static void pinnedLines() {
        Sentences.of(TERMS, "Two pinned entries, one right behind the other, are on the same line.");
        Check.same("both pinned", "2 1", linesOf(at(13, "n1:9! n2:9! n3:9")));
        Check.same("the first one alone", "1 1 1", linesOf(at(13, "n1:9! n2:9 n3:9")));
        Check.same("one between them", "1 1 1", linesOf(at(13, "n1:9! n2:9 n3:9!")));
        Check.same("three", "1 3", linesOf(at(13, "n1:9 n2:9! n3:9! n4:9!")));
        Check.same("two and two", "4", linesOf(at(13, "n1:9! n2:9! n3:9! n4:9!")));
        LintPress moved = at(13, "c9! n1:9 c8!");
        Check.same("ahead of the fix", "1 1 1", linesOf(moved));
        LintPress closer = at(13, "c9! { } c8!");
        closer.fix(0);
        Check.same("brought together by a fix", "2", linesOf(closer));
        closer.undo();
        Check.same("and apart by its undo", "1 2 1", linesOf(closer));
    }

    private static void ways() {
        Sentences.of(TERMS, "Laying out means to divide the entries into lines at the least sum of costs; of several ways, it is "
                + "that with the most entries on the first line, then on the second one, and so on.");
        Check.same("the least sum", "1 2", linesOf(at(13, "n1:9 n2:9 n3:3")));
        Check.same("a fuller first line costs more", "1 1 1", linesOf(at(13, "n1:9 n2:4 n3:9")));
        Check.same("as good: the fullest first line", "2 1 1", linesOf(at(13, "n1:9 n2:3 n3:9 c9")));
        Check.same("as good: the fullest second line", "1 2 1 1", linesOf(at(13, "c9 n1:9 n2:3 n3:9 c9")));
        Check.same("all on one line", "30", linesOf(at(60, Texts.repeat("n1:1", 30))));
    }

    private static void layoutsEnded() {
        Sentences.of(TERMS, "Whenever entries, pins or the width are told or changed by a deed, the text is not laid out any more.");
        ends("a name", press -> press.addName(1, 1));
        ends("a comment", press -> press.addComment(1));
        ends("a beginning", LintPress::begin);
        ends("an end", LintPress::end);
        ends("a pin", press -> press.pin(0, 0, true));
        ends("a pin taken off", press -> press.pin(3, 3, false));
        ends("a pin that was told again", press -> press.pin(3, 3, true));
        ends("a width", press -> press.setWidth(21));
        ends("a width that was told again", press -> press.setWidth(20));
        ends("a fix", press -> press.fix(0));
        ends("the best set", LintPress::fixBest);
        ends("a rename", press -> press.rename(1, 3));
        ends("a move", press -> press.move(1, 2));
    }

    private static void ends(String what, Consumer<LintPress> call) {
        LintPress press = laidOutAt(20, "{ n1:1 n1:1 c1! n2:1");
        Check.same("ahead of " + what, true, press.isLaidOut());
        call.accept(press);
        Check.same("behind " + what, false, press.isLaidOut());
        Check.fails("lines behind " + what, STATE, press, () -> press.lineWidth(0));
    }

    private static void exceptions() {
        Sentences.of(TERMS, "A method that throws an exception changes nothing.");
        Check.refuses("addName", ARGUMENT, Samples::used, press -> press.addName(100, 1));
        Check.refuses("addComment", ARGUMENT, Samples::used, press -> press.addComment(10));
        Check.refuses("begin", STATE, () -> Samples.full("{"), LintPress::begin);
        Check.refuses("end", STATE, Samples::used, LintPress::end);
        Check.refuses("pin", INDEX, Samples::used, press -> press.pin(3, 14, true));
        Check.refuses("pin", ARGUMENT, Samples::used, press -> press.pin(7, 3, true));
        Check.refuses("fix", ELEMENT, Samples::used, press -> press.fix(4));
        Check.refuses("fix", UNSUPPORTED, Samples::used, press -> press.fix(2));
        Check.refuses("fixBest", STATE, Samples::weightless, LintPress::fixBest);
        Check.refuses("rename", ARGUMENT, Samples::used, press -> press.rename(4, 100));
        Check.refuses("rename", UNSUPPORTED, Samples::used, press -> press.rename(4, 1));
        Check.refuses("move", UNSUPPORTED, Samples::used, press -> press.move(12, 11));
        Check.refuses("undo", STATE, LintPress::new, LintPress::undo);
        Check.refuses("setWidth", ARGUMENT, Samples::used, press -> press.setWidth(61));
    }

    private static void severalExceptions() {
        Sentences.of(TERMS, "If several exceptions apply, the one that is documented first is thrown.");
        Check.refuses("wrong name, and 30 entries", ARGUMENT, () -> Samples.full("{"), press -> press.addName(100, 1));
        Check.refuses("wrong length, and 30 entries", ARGUMENT, () -> Samples.full("{"), press -> press.addComment(0));
        Check.refuses("no entry behind the last one", INDEX, Samples::used, press -> press.pin(14, 2, true));
        Check.refuses("no entry ahead of the first one", INDEX, Samples::used, press -> press.pin(2, -1, true));
        Check.refuses("the same, and does not occur", ARGUMENT, Samples::used, press -> press.rename(50, 50));
        Check.refuses("the same, and pinned", ARGUMENT, Samples::used, press -> press.rename(1, 1));
        Check.refuses("out of range, and does not occur", ARGUMENT, Samples::used, press -> press.rename(50, -1));
        Check.refuses("out of range, and pinned", ARGUMENT, Samples::used, press -> press.rename(1, 100));
        Check.refuses("does not occur, and the new one does", ELEMENT, Samples::used, press -> press.rename(50, 1));
        Check.refuses("no entry, both the same", INDEX, Samples::used, press -> press.move(14, 14));
        Check.refuses("no entry, and a pinned one", INDEX, Samples::used, press -> press.move(0, 14));
        Check.refuses("both the same, and pinned", ARGUMENT, Samples::used, press -> press.move(0, 0));
        Check.refuses("both the same, and a beginning", ARGUMENT, Samples::used, press -> press.move(1, 1));
        Check.refuses("no entry, and not laid out", INDEX, Samples::usedAndNotLaidOut, press -> press.lineOf(14));
        Check.refuses("not laid out, and no line", STATE, Samples::usedAndNotLaidOut, press -> press.lineWidth(30));
    }

    private static void clarifications() {
        Sentences.of(TERMS, "When a deed is undone, the text is not laid out any more either.");
        LintPress press = Samples.used();
        for (int left = 2; left >= 0; left--) {
            press.layOut();
            Check.same("left", left, press.undo());
            Check.same("laid out", false, press.isLaidOut());
        }
        press.layOut();
        Check.thrownBy(press::undo);
        Check.same("laid out, when none could be undone", true, press.isLaidOut());
        Sentences.of(TERMS, "Two names are the same if their numbers are, whatever their lengths.");
        Check.same("a finding", "0@0-1+*", Texts.findings(Texts.make("n1:1 n1:9")));
        Check.same("renamed", 2, Texts.make("n1:1 n1:9").rename(1, 2));
        Check.same("counted", 2, Texts.make("n1:1 n1:9").occurrences(1));
        Check.same("other numbers, the same lengths", "", Texts.findings(Texts.make("n1:1 n2:1")));
        Sentences.of(TERMS, "A text without entries can be laid out, too, and is then laid out in 0 lines.");
        LintPress none = new LintPress();
        Check.same("lines", 0, none.layOut());
        Check.same("laid out", true, none.isLaidOut());
        Check.fails("line 0", ELEMENT, none, () -> none.lineWidth(0));
        Check.fails("entry 0", INDEX, none, () -> none.lineOf(0));
        LintPress shorter = laidOutAt(13, "{ }");
        shorter.fix(0);
        Check.same("lines of what a fix left", 0, shorter.layOut());
    }
}
