/** Objects on which a refused call would show: with deeds to be undone, pins, a layout and a width of their own. */
final class Samples {
    private Samples() {
    }

    /**
     * Fourteen entries, four findings, the third of which cannot be fixed, and three deeds: a fix, a rename and a move.
     * Five fixes were undone ahead of them.
     */
    static LintPress used() {
        LintPress press = Texts.make("n1:4 n1:6 { } c3 c8 { n2:5 } n3:9 { c2 } n4:7 c9");
        press.setWidth(20);
        press.fixBest();
        press.undo();
        press.fix(0);
        press.rename(3, 30);
        press.move(13, 12);
        press.pin(0, 0, true);
        press.pin(6, 6, true);
        press.layOut();
        return press;
    }

    /** As used(), but its text was changed behind the layout. */
    static LintPress usedAndNotLaidOut() {
        LintPress press = used();
        press.move(13, 12);
        return press;
    }

    /** Thirty entries, of which the first one is written, and the second one is the name 1; two deeds. */
    static LintPress full(String first) {
        LintPress press = Texts.make(first + " " + Texts.repeat("n1:1", 28) + " n2:2");
        press.setWidth(20);
        press.rename(2, 3);
        press.move(29, 28);
        press.pin(4, 5, true);
        press.layOut();
        return press;
    }

    /** No entries are left, but the fix that took them away can be undone. */
    static LintPress emptied() {
        LintPress press = Texts.make("{ }");
        press.setWidth(20);
        press.fix(0);
        press.layOut();
        return press;
    }

    /** Ten comments, two deeds, and the weight of their rule was undone until it is 0. */
    static LintPress weightless() {
        LintPress press = Texts.make(Texts.repeat("c1", 9) + " c2");
        for (int times = 0; times < 20 && press.weight(3) > 0; times++) {
            press.fixBest();
            press.undo();
        }
        press.move(9, 0);
        press.move(0, 1);
        press.layOut();
        return press;
    }

    /** The weight of rule 0 is 99, and there are still findings of it. */
    static LintPress heaviest() {
        LintPress press = new LintPress();
        for (int times = 0; times < 40 && (press.weight(0) < 99 || press.findings() < 2); times++) {
            if (press.findings() < 2) {
                Texts.add(press, Texts.repeat("n1:1", 30 - press.entries()));
            } else {
                press.fixBest();
            }
        }
        return press;
    }
}
