import java.util.HashMap;
import java.util.Map;
import java.util.Objects;
import java.util.function.Consumer;
import java.util.function.ObjIntConsumer;
import java.util.function.Supplier;

/** Counts answers that are as due and prints those that are not. */
final class Check {
    private static final Map<String, Integer> ANSWERS = new HashMap<>();
    private static int passed = 0;
    private static int failed = 0;
    private static String group = "";

    private Check() {
    }

    static void group(String name) {
        group = name;
    }

    static void same(String what, Object due, Object answered) {
        ANSWERS.merge(group, 1, Integer::sum);
        if (Objects.equals(due, answered)) {
            passed++;
        } else {
            failed++;
            System.out.println(group + ": " + what + " answered " + answered + ", due is " + due);
        }
    }

    /** The call throws just this exception and leaves all that can be asked as it was. */
    static void fails(String what, Class<? extends RuntimeException> due, LintPress press, Runnable call) {
        String before = Texts.state(press);
        same(what, due.getSimpleName(), thrownBy(call));
        same(what + ", the state then", before, Texts.state(press));
    }

    /**
     * The call throws just this exception, and from then on its object answers like another one that was made in the
     * same way and got no such call, also when its width is told and its deeds are undone.
     */
    static void refuses(String what, Class<? extends RuntimeException> due, Supplier<LintPress> maker,
            Consumer<LintPress> call) {
        LintPress refusing = maker.get();
        same(what, due.getSimpleName(), thrownBy(() -> call.accept(refusing)));
        same(what + ", what is answered then", Texts.history(maker.get()), Texts.history(refusing));
    }

    static void refusesEach(String what, Class<? extends RuntimeException> due, Supplier<LintPress> maker,
            ObjIntConsumer<LintPress> call, int... wrongs) {
        for (int wrong : wrongs) {
            refuses(what + " with " + wrong, due, maker, press -> call.accept(press, wrong));
        }
    }

    static String thrownBy(Runnable call) {
        try {
            call.run();
            return "nothing";
        } catch (RuntimeException thrown) {
            return thrown.getClass().getSimpleName();
        }
    }

    /** How many answers were looked at in a group. */
    static int answersOf(String name) {
        return ANSWERS.getOrDefault(name, 0);
    }

    static int passed() {
        return passed;
    }

    static int failed() {
        return failed;
    }
}
