import java.util.Objects;

/** Counts answers that are as due and prints those that are not. */
final class Check {
    private static int passed = 0;
    private static int failed = 0;
    private static String group = "";

    private Check() {
    }

    static void group(String name) {
        group = name;
    }

    static void same(String what, Object due, Object answered) {
        if (Objects.equals(due, answered)) {
            passed++;
        } else {
            failed++;
            System.out.println(group + ": " + what + " answered " + answered + ", due is " + due);
        }
    }

    /** The call throws just this exception and leaves all that can be asked as it was. */
    static void fails(String what, Class<? extends RuntimeException> due, LintPress press, Runnable call) {
        String before = Texts.state(press);
        same(what, due.getSimpleName(), thrownBy(call));
        same(what + ", the state then", before, Texts.state(press));
    }

    static String thrownBy(Runnable call) {
        try {
            call.run();
            return "nothing";
        } catch (RuntimeException thrown) {
            return thrown.getClass().getSimpleName();
        }
    }

    static int passed() {
        return passed;
    }

    static int failed() {
        return failed;
    }
}
