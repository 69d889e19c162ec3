import java.util.NoSuchElementException;

/** A formatter with a linter; what it does is promised in the document DOC.md. */
public final class LintPress {
    private static final int MOST_ENTRIES = 30;
    private static final int MOST_NAMES = 100;
    private static final int MOST_LENGTH = 9;
    private static final int MOST_DEEDS = 10;
    private static final int MOST_TRIED = 12;
    private static final int RULES = 5;
    private static final int NO_RULE = -1;
    private static final int MOST_WEIGHT = 99;
    private static final int LEAST_WIDTH = 13;
    private static final int MOST_WIDTH = 60;
    private static final int FIRST_WIDTH = 40;
    private static final int COMMENT_EXTRA = 4;
    private static final int COST_OF_ONE_OVER = 100;
    private static final int ABOVE_ANY_COST = 1000000000;
    private static final char NAME = 'n';
    private static final char COMMENT = 'c';
    private static final char BEGINNING = '{';
    private static final char END = '}';
    private static final char NOTHING = ' ';
    private static final int[] FIRST_WEIGHTS = {10, 8, 6, 4, 5};

    private final Text text = new Text();
    private final Rules rules = new Rules();
    private final Deeds deeds = new Deeds();
    private final Findings found = new Findings();
    private final BestSet bestSet = new BestSet();
    private final Layout shown = new Layout();
    private final Layout tried = new Layout();
    private int lineLimit = FIRST_WIDTH;
    private boolean laidOut = false;

    public LintPress() {
    }

    // ---- Entries ----

    public int addName(int name, int length) throws IllegalArgumentException, IllegalStateException {
        needName(name);
        needLength(length);
        return append(NAME, name, length);
    }

    public int addComment(int length) throws IllegalArgumentException, IllegalStateException {
        needLength(length);
        return append(COMMENT, 0, length);
    }

    public int begin() throws IllegalStateException {
        return text.depthAt(append(BEGINNING, 0, 1));
    }

    public int end() throws IllegalStateException {
        if (text.openAhead(text.size()) <= 0) {
            throw new IllegalStateException("no block is open");
        }
        return text.depthAt(append(END, 0, 1));
    }

    public int entries() {
        return text.size();
    }

    public char kindOf(int index) throws IndexOutOfBoundsException {
        needEntry(index);
        return text.kindAt(index);
    }

    public int nameOf(int index) throws IndexOutOfBoundsException, IllegalStateException {
        needEntry(index);
        if (text.kindAt(index) != NAME) {
            throw new IllegalStateException("the entry is no name");
        }
        return text.nameAt(index);
    }

    public int widthOf(int index) throws IndexOutOfBoundsException {
        needEntry(index);
        return text.widthAt(index);
    }

    public int depthOf(int index) throws IndexOutOfBoundsException {
        needEntry(index);
        return text.depthAt(index);
    }

    public int occurrences(int name) throws IllegalArgumentException {
        needName(name);
        return text.timesOf(name);
    }

    public int commonest() throws NoSuchElementException {
        int most = 0;
        int lowest = 0;
        for (int name = 0; name < MOST_NAMES; name++) {
            int times = text.timesOf(name);
            if (times > most) {
                most = times;
                lowest = name;
            }
        }
        if (most == 0) {
            throw new NoSuchElementException("there is no name");
        }
        return lowest;
    }

    public int pin(int first, int last, boolean isPinned) throws IndexOutOfBoundsException, IllegalArgumentException {
        needEntry(first);
        needEntry(last);
        if (last < first) {
            throw new IllegalArgumentException("the last entry is ahead of the first one");
        }
        int changed = 0;
        for (int index = first; index <= last; index++) {
            if (text.pinnedAt(index) != isPinned) {
                text.setPinned(index, isPinned);
                changed++;
            }
        }
        laidOut = false;
        return changed;
    }

    public boolean isPinned(int index) throws IndexOutOfBoundsException {
        needEntry(index);
        return text.pinnedAt(index);
    }

    // ---- Findings and fixes ----

    public int findings() {
        found.search(text, rules);
        return found.count();
    }

    public int ruleOf(int finding) throws NoSuchElementException {
        needFinding(finding);
        return found.rule(finding);
    }

    public int firstOf(int finding) throws NoSuchElementException {
        needFinding(finding);
        return found.first(finding);
    }

    public int lastOf(int finding) throws NoSuchElementException {
        needFinding(finding);
        return found.last(finding);
    }

    public boolean canFix(int finding) throws NoSuchElementException {
        needFinding(finding);
        return found.gain(finding) > 0;
    }

    public int best() {
        chooseBest();
        return bestSet.sum();
    }

    public int bestByTrying() throws UnsupportedOperationException {
        found.search(text, rules);
        if (found.fixable() > MOST_TRIED) {
            throw new UnsupportedOperationException("too many findings can be fixed");
        }
        return mostByTrying(found, 0, 0);
    }

    public boolean isInBest(int finding) throws NoSuchElementException {
        needFinding(finding);
        bestSet.choose(found);
        return bestSet.holds(finding);
    }

    public int fix(int finding) throws NoSuchElementException, UnsupportedOperationException {
        needFinding(finding);
        if (found.gain(finding) <= 0) {
            throw new UnsupportedOperationException("the finding cannot be fixed");
        }
        startDeed();
        applyFix(finding);
        return text.size();
    }

    public int fixBest() throws IllegalStateException {
        chooseBest();
        if (found.fixable() == 0) {
            throw new IllegalStateException("no finding can be fixed");
        }
        startDeed();
        int fixed = 0;
        // From the last one to the first one: a fix moves only entries behind it, which are done with by then.
        for (int finding = found.count() - 1; finding >= 0; finding--) {
            if (bestSet.holds(finding)) {
                applyFix(finding);
                fixed++;
            }
        }
        return fixed;
    }

    // ---- Renames, moves, undos, weights ----

    public int rename(int name, int other)
            throws IllegalArgumentException, NoSuchElementException, UnsupportedOperationException {
        needName(name);
        needName(other);
        if (name == other) {
            throw new IllegalArgumentException("both names are the same");
        }
        int times = text.timesOf(name);
        if (times == 0) {
            throw new NoSuchElementException("the name does not occur");
        }
        if (text.hasPinned(name) || text.timesOf(other) > 0) {
            throw new UnsupportedOperationException("the name is pinned, or the new one occurs");
        }
        startDeed();
        text.replaceName(name, other);
        return times;
    }

    public int move(int from, int to)
            throws IndexOutOfBoundsException, IllegalArgumentException, UnsupportedOperationException {
        needEntry(from);
        needEntry(to);
        if (from == to) {
            throw new IllegalArgumentException("both places are the same");
        }
        if (!text.allMovable(Math.min(from, to), Math.max(from, to))) {
            throw new UnsupportedOperationException("an entry there is pinned, a beginning or an end");
        }
        startDeed();
        text.carry(from, to);
        return Math.max(from, to) - Math.min(from, to);
    }

    public int undo() throws IllegalStateException {
        if (deeds.count() == 0) {
            throw new IllegalStateException("no deed can be undone");
        }
        deeds.takeBack(text, rules);
        laidOut = false;
        return deeds.count();
    }

    public int weight(int rule) throws IllegalArgumentException {
        needRule(rule);
        return rules.weightFor(rule);
    }

    public int ruleAt(int rank) throws NoSuchElementException {
        for (int rule = 0; rule < RULES; rule++) {
            if (rules.rankFor(rule) == rank) {
                return rule;
            }
        }
        throw new NoSuchElementException("there is no such rank");
    }

    public long undone(int rule) throws IllegalArgumentException {
        needRule(rule);
        return rules.undoneFor(rule);
    }

    public float undoneShare() throws ArithmeticException {
        float all = (float) rules.allFixed();
        if (all <= 0) {
            throw new ArithmeticException("nothing was fixed");
        }
        return (float) rules.allUndone() / all;
    }

    // ---- Lines ----

    public int setWidth(int width) throws IllegalArgumentException {
        if (width < LEAST_WIDTH || width > MOST_WIDTH) {
            throw new IllegalArgumentException("the width is out of range");
        }
        int before = lineLimit;
        lineLimit = width;
        laidOut = false;
        return before;
    }

    public int layOut() {
        shown.divide(text, lineLimit);
        laidOut = true;
        return shown.lines();
    }

    public boolean isLaidOut() {
        return laidOut;
    }

    public int cost() {
        tried.divide(text, lineLimit);
        return tried.least();
    }

    public int costByTrying() throws UnsupportedOperationException {
        if (text.size() > MOST_TRIED) {
            throw new UnsupportedOperationException("there are too many entries");
        }
        return leastByTrying(text, lineLimit, 0);
    }

    public int lineOf(int index) throws IndexOutOfBoundsException, IllegalStateException {
        needEntry(index);
        needLayout();
        return shown.lineHolding(index);
    }

    public int lineWidth(int line) throws IllegalStateException, NoSuchElementException {
        needLayout();
        if (line < 0 || line >= shown.lines()) {
            throw new NoSuchElementException("there is no such line");
        }
        return shown.widthOfLine(text, line);
    }

    public double meanWidth() throws ArithmeticException {
        double count = (double) text.size();
        if (count <= 0) {
            throw new ArithmeticException("there are no entries");
        }
        int sum = 0;
        for (int index = 0; index < text.size(); index++) {
            sum += text.widthAt(index);
        }
        return (double) sum / count;
    }

    public boolean isTidy() {
        tried.divide(text, lineLimit);
        if (laidOut && !shownIsLikeTried()) {
            return false;
        }
        if (text.size() <= MOST_TRIED && leastByTrying(text, lineLimit, 0) != tried.least()) {
            return false;
        }
        chooseBest();
        if (bestSet.hasClash(found)) {
            return false;
        }
        return found.fixable() > MOST_TRIED || mostByTrying(found, 0, 0) == bestSet.sum();
    }

    // ---- What several calls share ----

    private static void needName(int name) {
        if (name < 0 || name >= MOST_NAMES) {
            throw new IllegalArgumentException("the name is out of range");
        }
    }

    private static void needLength(int length) {
        if (length < 1 || length > MOST_LENGTH) {
            throw new IllegalArgumentException("the length is out of range");
        }
    }

    private static void needRule(int rule) {
        if (rule < 0 || rule >= RULES) {
            throw new IllegalArgumentException("there is no such rule");
        }
    }

    private void needEntry(int index) {
        if (index < 0 || index >= text.size()) {
            throw new IndexOutOfBoundsException("there is no such entry");
        }
    }

    /** Searches anew, so that the finding's number is one of the text as it is now. */
    private void needFinding(int finding) {
        found.search(text, rules);
        if (finding < 0 || finding >= found.count()) {
            throw new NoSuchElementException("there is no such finding");
        }
    }

    private void needLayout() {
        if (!laidOut) {
            throw new IllegalStateException("the text is not laid out");
        }
    }

    private int append(char kind, int name, int length) {
        if (text.size() >= MOST_ENTRIES) {
            throw new IllegalStateException("there are as many entries as there can be");
        }
        text.add(kind, name, length);
        deeds.forget();
        laidOut = false;
        return text.size() - 1;
    }

    private void startDeed() {
        deeds.keep(text);
        laidOut = false;
    }

    private void chooseBest() {
        found.search(text, rules);
        bestSet.choose(found);
    }

    private void applyFix(int finding) {
        int rule = found.rule(finding);
        int first = found.first(finding);
        switch (rule) {
            case 0:
                text.takeAway(first + 1);
                break;
            case 1:
                text.takeAway(first + 1);
                text.takeAway(first);
                break;
            case 2:
                text.carry(first, first + 1);
                break;
            case 3:
                text.joinWithNext(first);
                break;
            default:
                text.takeAway(first + 2);
                text.takeAway(first);
                break;
        }
        rules.reward(rule);
        deeds.noteFix(rule);
    }

    private boolean shownIsLikeTried() {
        return shown.sumOfCosts(text, lineLimit) == tried.least() && shown.isSameAs(tried, text.size());
    }

    /** The cost of a line; what is missing costs nothing on the last line. */
    private static int costOfLine(int lineWidth, int limit, boolean isLast) {
        if (lineWidth > limit) {
            return (lineWidth - limit) * COST_OF_ONE_OVER;
        }
        return isLast ? 0 : (limit - lineWidth) * (limit - lineWidth);
    }

    /** Tries all lines that can begin at an entry, each with all ways for the rest; at most twelve deep. */
    private static int leastByTrying(Text text, int limit, int first) {
        if (first >= text.size() || first >= MOST_TRIED) {
            return 0;
        }
        int least = ABOVE_ANY_COST;
        int lineWidth = -1;
        for (int last = first; last < text.size(); last++) {
            lineWidth += 1 + text.widthAt(last);
            if (text.canBreakBehind(last)) {
                boolean isLast = last == text.size() - 1;
                int sum = costOfLine(lineWidth, limit, isLast) + leastByTrying(text, limit, last + 1);
                least = Math.min(least, sum);
            }
        }
        return least;
    }

    /** Tries each finding from a number on both taken and left; free is the first entry of no taken finding. */
    private static int mostByTrying(Findings found, int number, int free) {
        if (number >= found.count() || number >= MOST_ENTRIES) {
            return 0;
        }
        int left = mostByTrying(found, number + 1, free);
        if (found.gain(number) <= 0 || found.first(number) < free) {
            return left;
        }
        int taken = found.gain(number) + mostByTrying(found, number + 1, found.last(number) + 1);
        return Math.max(left, taken);
    }

    private static int read(int[] row, int index) {
        return index >= 0 && index < row.length ? row[index] : 0;
    }

    private static void write(int[] row, int index, int value) {
        if (index >= 0 && index < row.length) {
            row[index] = value;
        }
    }

    private static boolean readFlag(boolean[] row, int index) {
        return index >= 0 && index < row.length && row[index];
    }

    private static void writeFlag(boolean[] row, int index, boolean value) {
        if (index >= 0 && index < row.length) {
            row[index] = value;
        }
    }

    /** The row of entries; behind its last entry there is NOTHING. */
    private static final class Text {
        private final char[] kinds = new char[MOST_ENTRIES];
        private final int[] names = new int[MOST_ENTRIES];
        private final int[] lengths = new int[MOST_ENTRIES];
        private final boolean[] pins = new boolean[MOST_ENTRIES];
        private int size = 0;

        int size() {
            return size;
        }

        char kindAt(int index) {
            return index >= 0 && index < size && index < kinds.length ? kinds[index] : NOTHING;
        }

        int nameAt(int index) {
            return read(names, index);
        }

        int lengthAt(int index) {
            return read(lengths, index);
        }

        boolean pinnedAt(int index) {
            return readFlag(pins, index);
        }

        void setPinned(int index, boolean value) {
            writeFlag(pins, index, value);
        }

        int widthAt(int index) {
            if (kindAt(index) == NAME) {
                return lengthAt(index);
            }
            return kindAt(index) == COMMENT ? lengthAt(index) + COMMENT_EXTRA : 1;
        }

        int openAhead(int index) {
            int open = 0;
            for (int ahead = 0; ahead < index && ahead < size; ahead++) {
                if (kindAt(ahead) == BEGINNING) {
                    open++;
                } else if (kindAt(ahead) == END) {
                    open--;
                }
            }
            return open;
        }

        int depthAt(int index) {
            return kindAt(index) == END ? openAhead(index) - 1 : openAhead(index);
        }

        boolean isNamed(int index, int name) {
            return kindAt(index) == NAME && nameAt(index) == name;
        }

        int timesOf(int name) {
            int times = 0;
            for (int index = 0; index < size; index++) {
                if (isNamed(index, name)) {
                    times++;
                }
            }
            return times;
        }

        boolean hasPinned(int name) {
            for (int index = 0; index < size; index++) {
                if (isNamed(index, name) && pinnedAt(index)) {
                    return true;
                }
            }
            return false;
        }

        boolean allMovable(int first, int last) {
            for (int index = first; index <= last && index < size; index++) {
                boolean canMove = kindAt(index) == NAME || kindAt(index) == COMMENT;
                if (!canMove || pinnedAt(index)) {
                    return false;
                }
            }
            return true;
        }

        boolean canBreakBehind(int index) {
            boolean isLast = index == size - 1;
            return isLast || !pinnedAt(index) || !pinnedAt(index + 1);
        }

        void add(char kind, int name, int length) {
            if (size < MOST_ENTRIES) {
                put(size, kind, name, length, false);
                size++;
            }
        }

        void replaceName(int name, int other) {
            for (int index = 0; index < size; index++) {
                if (isNamed(index, name)) {
                    write(names, index, other);
                }
            }
        }

        void takeAway(int index) {
            if (index < 0 || index >= size) {
                return;
            }
            for (int place = index; place + 1 < size; place++) {
                copyEntry(this, place + 1, place);
            }
            size--;
        }

        /** Carries an entry to another place; those between make room by one step. */
        void carry(int from, int to) {
            char kind = kindAt(from);
            int name = nameAt(from);
            int length = lengthAt(from);
            boolean isPinned = pinnedAt(from);
            for (int place = from; place < to; place++) {
                copyEntry(this, place + 1, place);
            }
            for (int place = from; place > to; place--) {
                copyEntry(this, place - 1, place);
            }
            put(to, kind, name, length, isPinned);
        }

        void joinWithNext(int index) {
            int sum = lengthAt(index) + lengthAt(index + 1);
            write(lengths, index, Math.min(sum, MOST_LENGTH));
            takeAway(index + 1);
        }

        void copyFrom(Text other) {
            size = other.size;
            for (int index = 0; index < size; index++) {
                copyEntry(other, index, index);
            }
        }

        private void copyEntry(Text source, int from, int to) {
            put(to, source.kindAt(from), source.nameAt(from), source.lengthAt(from), source.pinnedAt(from));
        }

        private void put(int index, char kind, int name, int length, boolean isPinned) {
            if (index >= 0 && index < kinds.length) {
                kinds[index] = kind;
            }
            write(names, index, name);
            write(lengths, index, length);
            writeFlag(pins, index, isPinned);
        }
    }

    /** The weights of the rules, and how often their fixes were made and undone. */
    private static final class Rules {
        private final int[] weights = new int[RULES];
        private final int[] undos = new int[RULES];
        private int fixed = 0;

        Rules() {
            for (int rule = 0; rule < RULES; rule++) {
                write(weights, rule, read(FIRST_WEIGHTS, rule));
            }
        }

        int weightFor(int rule) {
            return read(weights, rule);
        }

        int undoneFor(int rule) {
            return read(undos, rule);
        }

        int allFixed() {
            return fixed;
        }

        int allUndone() {
            int sum = 0;
            for (int rule = 0; rule < RULES; rule++) {
                sum += undoneFor(rule);
            }
            return sum;
        }

        /** The number of rules that stand ahead of a rule. */
        int rankFor(int rule) {
            int rank = 0;
            for (int other = 0; other < RULES; other++) {
                int more = weightFor(other) - weightFor(rule);
                if (more > 0 || (more == 0 && other < rule)) {
                    rank++;
                }
            }
            return rank;
        }

        void reward(int rule) {
            write(weights, rule, Math.min(weightFor(rule) + 1, MOST_WEIGHT));
            fixed++;
        }

        void punish(int rule) {
            int quarterRoundedUp = (weightFor(rule) + 3) / 4;
            write(weights, rule, weightFor(rule) - quarterRoundedUp);
            write(undos, rule, undoneFor(rule) + 1);
        }
    }

    /** The text as it was ahead of a deed, and how many fixes of each rule the deed made. */
    private static final class Deed {
        private final Text ahead = new Text();
        private final int[] fixes = new int[RULES];

        void start(Text text) {
            ahead.copyFrom(text);
            for (int rule = 0; rule < RULES; rule++) {
                write(fixes, rule, 0);
            }
        }

        void noteFix(int rule) {
            write(fixes, rule, read(fixes, rule) + 1);
        }

        void takeBack(Text text, Rules rules) {
            text.copyFrom(ahead);
            for (int rule = 0; rule < RULES; rule++) {
                for (int times = read(fixes, rule); times > 0; times--) {
                    rules.punish(rule);
                }
            }
        }
    }

    /** The last deeds, in a ring: the oldest one gives its place to the newest one. */
    private static final class Deeds {
        private final Deed[] ring = new Deed[MOST_DEEDS];
        private int newest = 0;
        private int count = 0;

        Deeds() {
            for (int place = 0; place < ring.length; place++) {
                ring[place] = new Deed();
            }
        }

        int count() {
            return count;
        }

        void forget() {
            count = 0;
        }

        void keep(Text text) {
            newest = newest + 1 < MOST_DEEDS ? newest + 1 : 0;
            count = Math.min(count + 1, MOST_DEEDS);
            Deed deed = newestDeed();
            if (deed != null) {
                deed.start(text);
            }
        }

        void noteFix(int rule) {
            Deed deed = newestDeed();
            if (deed != null) {
                deed.noteFix(rule);
            }
        }

        void takeBack(Text text, Rules rules) {
            Deed deed = newestDeed();
            if (deed != null && count > 0) {
                deed.takeBack(text, rules);
                newest = newest > 0 ? newest - 1 : MOST_DEEDS - 1;
                count--;
            }
        }

        private Deed newestDeed() {
            return newest >= 0 && newest < ring.length ? ring[newest] : null;
        }
    }

    /** The findings of a text by their numbers; each entry is the first one of at most one. */
    private static final class Findings {
        private final int[] ruleNumbers = new int[MOST_ENTRIES];
        private final int[] firsts = new int[MOST_ENTRIES];
        private final int[] lasts = new int[MOST_ENTRIES];
        private final int[] gains = new int[MOST_ENTRIES];
        private int count = 0;

        int count() {
            return count;
        }

        int rule(int number) {
            return read(ruleNumbers, number);
        }

        int first(int number) {
            return read(firsts, number);
        }

        int last(int number) {
            return read(lasts, number);
        }

        /** The weight of the rule, or 0 if the finding cannot be fixed. */
        int gain(int number) {
            return read(gains, number);
        }

        int fixable() {
            int sum = 0;
            for (int number = 0; number < count; number++) {
                if (gain(number) > 0) {
                    sum++;
                }
            }
            return sum;
        }

        void search(Text text, Rules rules) {
            count = 0;
            for (int first = 0; first < text.size(); first++) {
                int rule = ruleOfPair(text, first);
                if (rule != NO_RULE) {
                    note(text, rules, rule, first, first + 1);
                }
                if (isNameInBlock(text, first)) {
                    note(text, rules, 4, first, first + 2);
                }
            }
        }

        private static int ruleOfPair(Text text, int first) {
            char kind = text.kindAt(first);
            char next = text.kindAt(first + 1);
            if (kind == NAME && text.isNamed(first + 1, text.nameAt(first))) {
                return 0;
            }
            if (kind == BEGINNING && next == END) {
                return 1;
            }
            if (kind == COMMENT && next == END) {
                return 2;
            }
            return kind == COMMENT && next == COMMENT ? 3 : NO_RULE;
        }

        private static boolean isNameInBlock(Text text, int first) {
            return text.kindAt(first) == BEGINNING && text.kindAt(first + 1) == NAME && text.kindAt(first + 2) == END;
        }

        private void note(Text text, Rules rules, int rule, int first, int last) {
            boolean isFree = true;
            for (int index = first; index <= last && index < text.size(); index++) {
                isFree = isFree && !text.pinnedAt(index);
            }
            write(ruleNumbers, count, rule);
            write(firsts, count, first);
            write(lasts, count, last);
            write(gains, count, isFree ? rules.weightFor(rule) : 0);
            count = Math.min(count + 1, MOST_ENTRIES);
        }
    }

    /** The best set of findings, as it was chosen last. */
    private static final class BestSet {
        private final int[] sums = new int[MOST_ENTRIES + 1];
        private final boolean[] chosen = new boolean[MOST_ENTRIES];

        int sum() {
            return read(sums, 0);
        }

        boolean holds(int number) {
            return readFlag(chosen, number);
        }

        void choose(Findings found) {
            sumUp(found);
            int free = 0;
            for (int number = 0; number < MOST_ENTRIES; number++) {
                boolean isTaken = number < found.count() && found.first(number) >= free && isWorthTaking(found, number);
                writeFlag(chosen, number, isTaken);
                if (isTaken) {
                    free = found.last(number) + 1;
                }
            }
        }

        boolean hasClash(Findings found) {
            for (int one = 0; one < found.count(); one++) {
                for (int other = one + 1; other < found.count(); other++) {
                    boolean clash = found.first(one) <= found.last(other) && found.first(other) <= found.last(one);
                    if (clash && holds(one) && holds(other)) {
                        return true;
                    }
                }
            }
            return false;
        }

        /** Fills in, for each number, the greatest sum of the findings from it on. */
        private void sumUp(Findings found) {
            write(sums, found.count(), 0);
            for (int number = found.count() - 1; number >= 0; number--) {
                write(sums, number, Math.max(read(sums, number + 1), sumWith(found, number)));
            }
        }

        private int sumWith(Findings found, int number) {
            int next = number + 1;
            while (next < found.count() && found.first(next) <= found.last(number)) {
                next++;
            }
            return found.gain(number) + read(sums, next);
        }

        private boolean isWorthTaking(Findings found, int number) {
            return found.gain(number) > 0 && sumWith(found, number) == read(sums, number);
        }
    }

    /** A text divided into lines: where each line begins, and the least sum of costs. */
    private static final class Layout {
        private final int[] sums = new int[MOST_ENTRIES + 1];
        private final int[] nexts = new int[MOST_ENTRIES + 1];
        private final int[] starts = new int[MOST_ENTRIES + 1];
        private int lineCount = 0;

        int lines() {
            return lineCount;
        }

        int least() {
            return read(sums, 0);
        }

        void divide(Text text, int limit) {
            write(sums, text.size(), 0);
            for (int first = text.size() - 1; first >= 0; first--) {
                chooseLineFrom(text, limit, first);
            }
            lineCount = 0;
            int start = 0;
            for (int step = 0; step < MOST_ENTRIES && start < text.size(); step++) {
                write(starts, lineCount, start);
                lineCount++;
                start = read(nexts, start);
            }
            write(starts, lineCount, text.size());
        }

        int lineHolding(int index) {
            int line = 0;
            while (line + 1 < lineCount && read(starts, line + 1) <= index) {
                line++;
            }
            return line;
        }

        int widthOfLine(Text text, int line) {
            int sum = -1;
            for (int index = read(starts, line); index < read(starts, line + 1); index++) {
                sum += 1 + text.widthAt(index);
            }
            return sum;
        }

        int sumOfCosts(Text text, int limit) {
            int sum = 0;
            for (int line = 0; line < lineCount; line++) {
                sum += costOfLine(widthOfLine(text, line), limit, line == lineCount - 1);
            }
            return sum;
        }

        boolean isSameAs(Layout other, int size) {
            if (lineCount != other.lineCount) {
                return false;
            }
            for (int index = 0; index < size; index++) {
                if (lineHolding(index) != other.lineHolding(index)) {
                    return false;
                }
            }
            return true;
        }

        /** Of the lines that can begin at an entry, the longest one of those with the least sum is kept. */
        private void chooseLineFrom(Text text, int limit, int first) {
            int least = ABOVE_ANY_COST;
            int next = text.size();
            int lineWidth = -1;
            for (int last = first; last < text.size(); last++) {
                lineWidth += 1 + text.widthAt(last);
                boolean isLast = last == text.size() - 1;
                int sum = costOfLine(lineWidth, limit, isLast) + read(sums, last + 1);
                if (text.canBreakBehind(last) && sum <= least) {
                    least = sum;
                    next = last + 1;
                }
            }
            write(sums, first, least);
            write(nexts, first, next);
        }
    }
}
