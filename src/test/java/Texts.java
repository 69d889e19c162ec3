import java.util.StringJoiner;

/**
 * Makes texts from a short writing and writes them back: n7:3 is the name 7 with the length 3, c5 a comment with the
 * length 5, and a ! behind an entry says that it is pinned.
 */
final class Texts {
    private Texts() {
    }

    static LintPress make(String writing) {
        LintPress press = new LintPress();
        add(press, writing);
        return press;
    }

    static void add(LintPress press, String writing) {
        for (String part : writing.isEmpty() ? new String[0] : writing.split(" ")) {
            boolean isPinned = part.endsWith("!");
            addOne(press, isPinned ? part.substring(0, part.length() - 1) : part);
            if (isPinned) {
                press.pin(press.entries() - 1, press.entries() - 1, true);
            }
        }
    }

    private static void addOne(LintPress press, String part) {
        if (part.equals("{")) {
            press.begin();
        } else if (part.equals("}")) {
            press.end();
        } else if (part.startsWith("c")) {
            press.addComment(Integer.parseInt(part.substring(1)));
        } else {
            String[] numbers = part.substring(1).split(":");
            press.addName(Integer.parseInt(numbers[0]), Integer.parseInt(numbers[1]));
        }
    }

    static String repeat(String writing, int times) {
        StringJoiner all = new StringJoiner(" ");
        for (int i = 0; i < times; i++) {
            all.add(writing);
        }
        return all.toString();
    }

    static String show(LintPress press) {
        StringJoiner all = new StringJoiner(" ");
        for (int i = 0; i < press.entries(); i++) {
            all.add(showOne(press, i) + (press.isPinned(i) ? "!" : ""));
        }
        return all.toString();
    }

    private static String showOne(LintPress press, int index) {
        switch (press.kindOf(index)) {
            case 'n':
                return "n" + press.nameOf(index) + ":" + press.widthOf(index);
            case 'c':
                return "c" + (press.widthOf(index) - 4);
            default:
                return "" + press.kindOf(index);
        }
    }

    /** The findings as rule@first-last, with a + for one that can be fixed and a * for one of the best set. */
    static String findings(LintPress press) {
        StringJoiner all = new StringJoiner(" ");
        for (int i = 0; i < press.findings(); i++) {
            String marks = (press.canFix(i) ? "+" : "") + (press.isInBest(i) ? "*" : "");
            all.add(press.ruleOf(i) + "@" + press.firstOf(i) + "-" + press.lastOf(i) + marks);
        }
        return all.toString();
    }

    static String weights(LintPress press) {
        StringJoiner all = new StringJoiner(" ");
        for (int rule = 0; rule < 5; rule++) {
            all.add("" + press.weight(rule));
        }
        return all.toString();
    }

    static String undone(LintPress press) {
        StringJoiner all = new StringJoiner(" ");
        for (int rule = 0; rule < 5; rule++) {
            all.add("" + press.undone(rule));
        }
        return all.toString();
    }

    static String ranks(LintPress press) {
        StringJoiner all = new StringJoiner(" ");
        for (int rank = 0; rank < 5; rank++) {
            all.add("" + press.ruleAt(rank));
        }
        return all.toString();
    }

    /** The number of entries on each line, or - if the text is not laid out. */
    static String lines(LintPress press) {
        if (!press.isLaidOut()) {
            return "-";
        }
        StringJoiner all = new StringJoiner(" ");
        int count = 0;
        for (int i = 0; i < press.entries(); i++) {
            count++;
            if (i + 1 == press.entries() || press.lineOf(i + 1) != press.lineOf(i)) {
                all.add("" + count);
                count = 0;
            }
        }
        return all.toString();
    }

    /** The width cannot be asked without telling it; the cost tells enough of it. */
    static String state(LintPress press) {
        String share;
        try {
            share = "" + press.undoneShare();
        } catch (ArithmeticException none) {
            share = "none";
        }
        return String.join("|", show(press), findings(press), "" + press.best(), weights(press), undone(press), share,
                lines(press), "" + press.cost(), "" + press.isTidy());
    }

    /** All that can be asked, then the width, then all that each undo leaves; the object is of no use behind it. */
    static String history(LintPress press) {
        StringJoiner all = new StringJoiner("\n");
        all.add(state(press));
        all.add("width " + press.setWidth(40));
        String left = undo(press);
        while (!left.isEmpty()) {
            all.add(left + " left: " + state(press));
            left = undo(press);
        }
        return all.toString();
    }

    /** The number of deeds that are left, or nothing if none can be undone. */
    private static String undo(LintPress press) {
        try {
            return "" + press.undo();
        } catch (IllegalStateException none) {
            return "";
        }
    }
}
