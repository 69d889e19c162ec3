import java.util.ArrayList;
import java.util.List;
import java.util.NoSuchElementException;

/** The document once more, written as its words stand and without regard for speed: what LintPress is compared with. */
final class Model {
    private record Entry(char kind, int name, int length, boolean isPinned) {
        int width() {
            return kind == 'n' ? length : kind == 'c' ? length + 4 : 1;
        }

        Entry pinned(boolean value) {
            return new Entry(kind, name, length, value);
        }
    }

    private record Finding(int rule, int first, int last) {
        boolean clashesWith(Finding other) {
            return first <= other.last && other.first <= last;
        }
    }

    private record Deed(List<Entry> ahead, List<Integer> rules) {
    }

    private record Way(int cost, List<Integer> lines) {
    }

    private List<Entry> row = new ArrayList<>();
    private final List<Deed> deeds = new ArrayList<>();
    private final int[] weights = {10, 8, 6, 4, 5};
    private final long[] undone = new long[5];
    private int fixed = 0;
    private int limit = 40;
    private List<Integer> lines = null;

    // ---- Entries ----

    int addName(int name, int length) {
        require(name >= 0 && name <= 99 && length >= 1 && length <= 9, new IllegalArgumentException());
        return append(new Entry('n', name, length, false));
    }

    int addComment(int length) {
        require(length >= 1 && length <= 9, new IllegalArgumentException());
        return append(new Entry('c', -1, length, false));
    }

    int begin() {
        return depthOf(append(new Entry('{', -1, 1, false)));
    }

    int end() {
        long begun = row.stream().filter(e -> e.kind == '{').count();
        long ended = row.stream().filter(e -> e.kind == '}').count();
        require(begun > ended, new IllegalStateException());
        return depthOf(append(new Entry('}', -1, 1, false)));
    }

    private int append(Entry entry) {
        require(row.size() < 30, new IllegalStateException());
        row.add(entry);
        deeds.clear();
        lines = null;
        return row.size() - 1;
    }

    int entries() {
        return row.size();
    }

    char kindOf(int index) {
        return at(index).kind;
    }

    int nameOf(int index) {
        require(at(index).kind == 'n', new IllegalStateException());
        return at(index).name;
    }

    int widthOf(int index) {
        return at(index).width();
    }

    int depthOf(int index) {
        List<Integer> open = new ArrayList<>();
        for (int i = 0; i < index; i++) {
            if (at(i).kind == '{') {
                open.add(i);
            } else if (at(i).kind == '}') {
                open.remove(open.size() - 1);
            }
        }
        return at(index).kind == '}' ? open.size() - 1 : open.size();
    }

    int occurrences(int name) {
        require(name >= 0 && name <= 99, new IllegalArgumentException());
        return (int) row.stream().filter(e -> e.kind == 'n' && e.name == name).count();
    }

    int commonest() {
        require(row.stream().anyMatch(e -> e.kind == 'n'), new NoSuchElementException());
        int common = 99;
        for (int name = 99; name >= 0; name--) {
            common = occurrences(name) >= occurrences(common) ? name : common;
        }
        return common;
    }

    int pin(int first, int last, boolean value) {
        at(first);
        at(last);
        require(first <= last, new IllegalArgumentException());
        int changed = 0;
        for (int i = first; i <= last; i++) {
            changed += at(i).isPinned == value ? 0 : 1;
            row.set(i, at(i).pinned(value));
        }
        lines = null;
        return changed;
    }

    boolean isPinned(int index) {
        return at(index).isPinned;
    }

    private Entry at(int index) {
        require(index >= 0 && index < row.size(), new IndexOutOfBoundsException());
        return row.get(index);
    }

    private static void require(boolean holds, RuntimeException otherwise) {
        if (!holds) {
            throw otherwise;
        }
    }

    // ---- Findings ----

    private List<Finding> all() {
        List<Finding> all = new ArrayList<>();
        for (int first = 0; first < row.size(); first++) {
            for (int last = first; last < row.size(); last++) {
                for (int rule = 0; rule < 5; rule++) {
                    if (applies(rule, row.subList(first, last + 1))) {
                        all.add(new Finding(rule, first, last));
                    }
                }
            }
        }
        return all;
    }

    private static boolean applies(int rule, List<Entry> part) {
        StringBuilder kinds = new StringBuilder();
        part.forEach(e -> kinds.append(e.kind));
        String due = new String[] {"nn", "{}", "c}", "cc", "{n}"}[rule];
        return kinds.toString().equals(due) && (rule != 0 || part.get(0).name == part.get(1).name);
    }

    private Finding finding(int number) {
        List<Finding> all = all();
        require(number >= 0 && number < all.size(), new NoSuchElementException());
        return all.get(number);
    }

    private boolean isFixable(Finding finding) {
        boolean isFree = row.subList(finding.first, finding.last + 1).stream().noneMatch(Entry::isPinned);
        return isFree && weights[finding.rule] > 0;
    }

    private List<Finding> fixable() {
        return new ArrayList<>(all().stream().filter(this::isFixable).toList());
    }

    int findings() {
        return all().size();
    }

    int ruleOf(int number) {
        return finding(number).rule;
    }

    int firstOf(int number) {
        return finding(number).first;
    }

    int lastOf(int number) {
        return finding(number).last;
    }

    boolean canFix(int number) {
        return isFixable(finding(number));
    }

    /** The greatest sum of sets of these findings that have all the needed ones in them; they do not clash. */
    private int greatest(List<Finding> free, List<Finding> needed) {
        List<Finding> left = new ArrayList<>(free);
        int sum = 0;
        for (Finding one : needed) {
            sum += weights[one.rule];
            left.removeIf(one::clashesWith);
        }
        return sum + greatestOf(left);
    }

    /** Findings that end far ahead of others do not clash with them: the greatest sums, by first entries. */
    private int greatestOf(List<Finding> left) {
        int[] sums = new int[row.size() + 4];
        for (int entry = row.size() - 1; entry >= 0; entry--) {
            sums[entry] = sums[entry + 1];
            for (Finding one : left) {
                if (one.first == entry) {
                    sums[entry] = Math.max(sums[entry], weights[one.rule] + sums[one.last + 1]);
                }
            }
        }
        return sums[0];
    }

    private int triedSum() {
        List<Finding> free = fixable();
        int best = 0;
        for (int mask = 0; mask < 1 << free.size(); mask++) {
            int sum = 0;
            boolean clash = false;
            for (int i = 0; i < free.size(); i++) {
                for (int j = 0; j < i; j++) {
                    clash |= (mask >> i & 1) == 1 && (mask >> j & 1) == 1 && free.get(i).clashesWith(free.get(j));
                }
                sum += (mask >> i & 1) * weights[free.get(i).rule];
            }
            best = clash ? best : Math.max(best, sum);
        }
        return best;
    }

    private List<Finding> bestSet() {
        List<Finding> free = fixable();
        List<Finding> taken = new ArrayList<>();
        int sum = greatest(free, taken);
        for (Finding one : free) {
            List<Finding> more = new ArrayList<>(taken);
            more.add(one);
            if (taken.stream().noneMatch(one::clashesWith) && greatest(free, more) == sum) {
                taken = more;
            }
        }
        return taken;
    }

    int best() {
        return greatest(fixable(), List.of());
    }

    int bestByTrying() {
        require(fixable().size() <= 12, new UnsupportedOperationException());
        return triedSum();
    }

    boolean isInBest(int number) {
        return bestSet().contains(finding(number));
    }

    int fix(int number) {
        Finding one = finding(number);
        require(isFixable(one), new UnsupportedOperationException());
        fixAll(List.of(one));
        return row.size();
    }

    int fixBest() {
        List<Finding> set = bestSet();
        require(!set.isEmpty(), new IllegalStateException());
        fixAll(set);
        return set.size();
    }

    private void fixAll(List<Finding> set) {
        keep(set.stream().map(Finding::rule).toList());
        List<Entry> made = new ArrayList<>();
        int index = 0;
        while (index < row.size()) {
            int here = index;
            Finding one = set.stream().filter(f -> f.first == here).findFirst().orElse(null);
            if (one == null) {
                made.add(row.get(index));
                index++;
            } else {
                made.addAll(fixedPart(one));
                weights[one.rule] = Math.min(99, weights[one.rule] + 1);
                fixed++;
                index = one.last + 1;
            }
        }
        row = made;
    }

    private List<Entry> fixedPart(Finding one) {
        Entry first = row.get(one.first);
        Entry second = row.get(one.first + 1);
        switch (one.rule) {
            case 0:
                return List.of(first);
            case 1:
                return List.of();
            case 2:
                return List.of(second, first);
            case 3:
                return List.of(new Entry('c', -1, Math.min(9, first.length + second.length), false));
            default:
                return List.of(second);
        }
    }

    private void keep(List<Integer> rules) {
        deeds.add(new Deed(new ArrayList<>(row), rules));
        if (deeds.size() > 10) {
            deeds.remove(0);
        }
        lines = null;
    }

    // ---- Renames, moves, undos, weights ----

    int rename(int name, int other) {
        require(name >= 0 && name <= 99 && other >= 0 && other <= 99 && name != other, new IllegalArgumentException());
        int times = occurrences(name);
        require(times > 0, new NoSuchElementException());
        boolean isHeld = row.stream().anyMatch(e -> e.kind == 'n' && e.name == name && e.isPinned);
        require(!isHeld && occurrences(other) == 0, new UnsupportedOperationException());
        keep(List.of());
        row.replaceAll(e -> e.kind == 'n' && e.name == name ? new Entry('n', other, e.length, e.isPinned) : e);
        return times;
    }

    int move(int from, int to) {
        at(from);
        at(to);
        require(from != to, new IllegalArgumentException());
        for (Entry e : row.subList(Math.min(from, to), Math.max(from, to) + 1)) {
            require(!e.isPinned && e.kind != '{' && e.kind != '}', new UnsupportedOperationException());
        }
        keep(List.of());
        row.add(to, row.remove(from));
        return Math.abs(from - to);
    }

    int undo() {
        require(!deeds.isEmpty(), new IllegalStateException());
        Deed deed = deeds.remove(deeds.size() - 1);
        row = new ArrayList<>(deed.ahead);
        for (int rule : deed.rules) {
            weights[rule] -= (int) Math.ceil(weights[rule] / 4.0);
            undone[rule]++;
        }
        lines = null;
        return deeds.size();
    }

    int weight(int rule) {
        require(rule >= 0 && rule < 5, new IllegalArgumentException());
        return weights[rule];
    }

    int ruleAt(int rank) {
        require(rank >= 0 && rank < 5, new NoSuchElementException());
        List<Integer> rules = new ArrayList<>(List.of(0, 1, 2, 3, 4));
        rules.sort((a, b) -> weights[a] != weights[b] ? weights[b] - weights[a] : a - b);
        return rules.get(rank);
    }

    long undone(int rule) {
        require(rule >= 0 && rule < 5, new IllegalArgumentException());
        return undone[rule];
    }

    float undoneShare() {
        require(fixed > 0, new ArithmeticException());
        return (float) java.util.Arrays.stream(undone).sum() / (float) fixed;
    }

    // ---- Lines ----

    int setWidth(int width) {
        require(width >= 13 && width <= 60, new IllegalArgumentException());
        int before = limit;
        limit = width;
        lines = null;
        return before;
    }

    private int widthOfPart(int first, int behind) {
        return row.subList(first, behind).stream().mapToInt(Entry::width).sum() + (behind - first - 1);
    }

    private int costOfPart(int first, int behind) {
        int less = limit - widthOfPart(first, behind);
        return less < 0 ? -100 * less : behind == row.size() ? 0 : less * less;
    }

    private boolean isTorn(int behind) {
        return behind < row.size() && row.get(behind - 1).isPinned && row.get(behind).isPinned;
    }

    private static int compareLines(List<Integer> one, List<Integer> other) {
        for (int i = 0; i < one.size() && i < other.size(); i++) {
            if (!one.get(i).equals(other.get(i))) {
                return one.get(i) - other.get(i);
            }
        }
        return 0;
    }

    /** From the first entries on: the best way to divide as many of them, lines ahead compared whole. */
    private Way bestWay() {
        Way[] ways = new Way[row.size() + 1];
        ways[0] = new Way(0, List.of());
        for (int behind = 1; behind <= row.size(); behind++) {
            for (int first = 0; first < behind; first++) {
                if (ways[first] == null || isTorn(behind)) {
                    continue;
                }
                List<Integer> counts = new ArrayList<>(ways[first].lines);
                counts.add(behind - first);
                Way way = new Way(ways[first].cost + costOfPart(first, behind), counts);
                Way old = ways[behind];
                if (old == null || way.cost < old.cost || way.cost == old.cost && compareLines(counts, old.lines) > 0) {
                    ways[behind] = way;
                }
            }
        }
        return ways[row.size()];
    }

    private int triedCost() {
        int least = row.isEmpty() ? 0 : Integer.MAX_VALUE;
        for (int mask = 0; !row.isEmpty() && mask < 1 << row.size() - 1; mask++) {
            int sum = 0;
            int first = 0;
            boolean isTorn = false;
            for (int behind = 1; behind <= row.size(); behind++) {
                if (behind == row.size() || (mask >> behind - 1 & 1) == 1) {
                    isTorn |= isTorn(behind);
                    sum += costOfPart(first, behind);
                    first = behind;
                }
            }
            least = isTorn ? least : Math.min(least, sum);
        }
        return least;
    }

    int layOut() {
        lines = bestWay().lines;
        return lines.size();
    }

    boolean isLaidOut() {
        return lines != null;
    }

    int cost() {
        return bestWay().cost;
    }

    int costByTrying() {
        require(row.size() <= 12, new UnsupportedOperationException());
        return triedCost();
    }

    int lineOf(int index) {
        at(index);
        require(lines != null, new IllegalStateException());
        int left = index;
        int line = 0;
        while (left >= lines.get(line)) {
            left -= lines.get(line);
            line++;
        }
        return line;
    }

    int lineWidth(int line) {
        require(lines != null, new IllegalStateException());
        require(line >= 0 && line < lines.size(), new NoSuchElementException());
        int first = lines.subList(0, line).stream().mapToInt(Integer::intValue).sum();
        return widthOfPart(first, first + lines.get(line));
    }

    double meanWidth() {
        require(!row.isEmpty(), new ArithmeticException());
        return (double) row.stream().mapToInt(Entry::width).sum() / (double) row.size();
    }

    boolean isTidy() {
        return true;
    }
}
