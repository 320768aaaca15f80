/** Compares answers with those that are due, and tells at the end whether all were. */
final class Checks {
    /** A call that may throw. */
    interface Call {
        long answer();
    }

    private int made = 0;
    private int wrong = 0;

    void due(String what, long want, Call call) {
        dueText(what, Long.toString(want), textOf(call));
    }

    void dueThrow(String what, Class<? extends RuntimeException> want, Call call) {
        dueText(what, "throws." + want.getSimpleName(), textOf(call));
    }

    void dueText(String what, String want, String got) {
        made++;
        if (!want.equals(got)) {
            wrong++;
            if (wrong <= 50) {
                System.out.println(what + " answered " + got + ", due is " + want);
            }
        }
    }

    static String textOf(Call call) {
        try {
            return Long.toString(call.answer());
        } catch (RuntimeException e) {
            return "throws." + e.getClass().getSimpleName();
        }
    }

    int wrong() {
        return wrong;
    }

    void end() {
        System.out.println(made + " answers looked at, " + wrong + " not as due");
        if (wrong != 0 || made == 0) {
            System.exit(1);
        }
    }
}
