import java.util.Random;
import java.util.function.Supplier;

/** Runs of calls that are drawn from fixed seeds, on LintPress and on the model: each call must answer the same. */
final class RandomRunsTest {
    private static final int RUNS = 400;
    private static final int CALLS = 500;
    private static final int CALLS_OF_FACE = 39;

    private final Random random;
    private final LintPress press = new LintPress();
    private final Model model = new Model();
    private final int names;
    private final int asks;
    private final int adds;

    private RandomRunsTest(int seed) {
        random = new Random(seed);
        names = 1 + random.nextInt(3);
        asks = 20 + random.nextInt(50);
        adds = random.nextInt(4) == 0 ? 3 : 15;
    }

    static void run() {
        Check.group("random runs, promises 1 to 40");
        for (int seed = 1; seed <= RUNS; seed++) {
            RandomRunsTest one = new RandomRunsTest(seed);
            Check.same("seed " + seed, "as the model", one.difference());
        }
    }

    private String difference() {
        StringBuilder calls = new StringBuilder();
        for (int call = 0; call < CALLS; call++) {
            String answers = answersOfOneCall();
            calls.append(answers).append("; ");
            if (answers.contains("<>")) {
                return calls.toString();
            }
        }
        return "as the model";
    }

    private String answersOfOneCall() {
        int chance = random.nextInt(100);
        if (chance < asks) {
            return call(random.nextInt(CALLS_OF_FACE));
        }
        if (chance < asks + adds) {
            return call(random.nextInt(4));
        }
        int[] deeds = {11, 21, 22, 22, 23, 24, 25, 25, 31, 32, 38};
        return call(deeds[random.nextInt(deeds.length)]);
    }

    private int name() {
        return random.nextInt(40) == 0 ? wild() : random.nextInt(names);
    }

    private int length() {
        return random.nextInt(40) == 0 ? wild() : 1 + random.nextInt(9);
    }

    private int index() {
        return random.nextInt(40) == 0 ? wild() : random.nextInt(press.entries() + 1);
    }

    private int number() {
        return random.nextInt(40) == 0 ? wild() : random.nextInt(press.findings() + 1);
    }

    private int five() {
        return random.nextInt(20) == 0 ? wild() : random.nextInt(5);
    }

    private int wild() {
        int[] values = {-1, 0, 5, 10, 29, 30, 31, 99, 100, 1000, Integer.MIN_VALUE, Integer.MAX_VALUE};
        return values[random.nextInt(values.length)];
    }

    private String both(String what, Supplier<Object> ours, Supplier<Object> theirs) {
        String one = answer(ours);
        String other = answer(theirs);
        return what + " " + one + (one.equals(other) ? "" : " <> " + other);
    }

    private static String answer(Supplier<Object> call) {
        try {
            return "" + call.get();
        } catch (RuntimeException thrown) {
            return thrown.getClass().getSimpleName();
        }
    }

    private String call(int which) {
        if (which < 14) {
            return callOfEntries(which);
        }
        return which < 31 ? callOfDeeds(which) : callOfLines(which);
    }

    private String callOfEntries(int which) {
        int name = name();
        int length = length();
        int index = index();
        int last = random.nextInt(3) == 0 ? index() : index + random.nextInt(3);
        boolean isPinned = random.nextInt(3) == 0;
        switch (which) {
            case 0: return both("addName " + name + " " + length, () -> press.addName(name, length), () -> model.addName(name, length));
            case 1: return both("addComment " + length, () -> press.addComment(length), () -> model.addComment(length));
            case 2: return both("begin", press::begin, model::begin);
            case 3: return both("end", press::end, model::end);
            case 4: return both("entries", press::entries, model::entries);
            case 5: return both("kindOf " + index, () -> press.kindOf(index), () -> model.kindOf(index));
            case 6: return both("nameOf " + index, () -> press.nameOf(index), () -> model.nameOf(index));
            case 7: return both("widthOf " + index, () -> press.widthOf(index), () -> model.widthOf(index));
            case 8: return both("depthOf " + index, () -> press.depthOf(index), () -> model.depthOf(index));
            case 9: return both("occurrences " + name, () -> press.occurrences(name), () -> model.occurrences(name));
            case 10: return both("commonest", press::commonest, model::commonest);
            case 11: return both("pin " + index + " " + last + " " + isPinned, () -> press.pin(index, last, isPinned), () -> model.pin(index, last, isPinned));
            case 12: return both("isPinned " + index, () -> press.isPinned(index), () -> model.isPinned(index));
            default: return both("findings", press::findings, model::findings);
        }
    }

    private String callOfDeeds(int which) {
        int number = number();
        int five = five();
        int name = name();
        int other = random.nextInt(3) == 0 ? name() : 3 + random.nextInt(5);
        int from = index();
        int to = random.nextBoolean() ? index() : from + random.nextInt(5) - 2;
        switch (which) {
            case 14: return both("ruleOf " + number, () -> press.ruleOf(number), () -> model.ruleOf(number));
            case 15: return both("firstOf " + number, () -> press.firstOf(number), () -> model.firstOf(number));
            case 16: return both("lastOf " + number, () -> press.lastOf(number), () -> model.lastOf(number));
            case 17: return both("canFix " + number, () -> press.canFix(number), () -> model.canFix(number));
            case 18: return both("best", press::best, model::best);
            case 19: return both("bestByTrying", press::bestByTrying, model::bestByTrying);
            case 20: return both("isInBest " + number, () -> press.isInBest(number), () -> model.isInBest(number));
            case 21: return both("fix " + number, () -> press.fix(number), () -> model.fix(number));
            case 22: return both("fixBest", press::fixBest, model::fixBest);
            case 23: return both("rename " + name + " " + other, () -> press.rename(name, other), () -> model.rename(name, other));
            case 24: return both("move " + from + " " + to, () -> press.move(from, to), () -> model.move(from, to));
            case 25: return both("undo", press::undo, model::undo);
            case 26: return both("weight " + five, () -> press.weight(five), () -> model.weight(five));
            case 27: return both("ruleAt " + five, () -> press.ruleAt(five), () -> model.ruleAt(five));
            case 28: return both("undone " + five, () -> press.undone(five), () -> model.undone(five));
            case 29: return both("undoneShare", press::undoneShare, model::undoneShare);
            default: return both("meanWidth", press::meanWidth, model::meanWidth);
        }
    }

    private String callOfLines(int which) {
        int index = index();
        int width = random.nextInt(20) == 0 ? wild() : 12 + random.nextInt(50);
        switch (which) {
            case 31: return both("setWidth " + width, () -> press.setWidth(width), () -> model.setWidth(width));
            case 32: return both("layOut", press::layOut, model::layOut);
            case 33: return both("isLaidOut", press::isLaidOut, model::isLaidOut);
            case 34: return both("cost", press::cost, model::cost);
            case 35: return both("costByTrying", press::costByTrying, model::costByTrying);
            case 36: return both("lineOf " + index, () -> press.lineOf(index), () -> model.lineOf(index));
            case 37: return both("lineWidth " + index, () -> press.lineWidth(index), () -> model.lineWidth(index));
            default: return both("isTidy", press::isTidy, model::isTidy) + "; " + both("layOut", press::layOut, model::layOut);
        }
    }
}
