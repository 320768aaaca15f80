/** Compares answers with those that are due, and tells at the end whether all were. */
final class Checks {
    /** A call that may throw. */
    interface Call {
        long answer();
    }

    /** For each sentence, so that faults of one don't hide those of another. */
    private static final int MOST_TOLD = 10;

    private int made = 0;
    private int wrong = 0;
    private int told = 0;

    /** The words of the document that are being tested, or nothing. */
    private String sentence = "";

    /** A test of one sentence; what it throws itself is a fault of that sentence and hides no other test. */
    void sentence(String words, Runnable test) {
        sentence = "\"" + words + "\" ";
        told = 0;
        int before = made;
        dueText("the test", "nothing thrown", thrownBy(test));
        dueText("answers looked at", "true", Boolean.toString(made > before + 1));
        sentence = "";
        told = 0;
    }

    void due(String what, long want, Call call) {
        dueText(what, Long.toString(want), textOf(call));
    }

    void dueThrow(String what, Class<? extends RuntimeException> want, Call call) {
        dueText(what, "throws." + want.getSimpleName(), textOf(call));
    }

    /** The steps of the tree that is looked at: just these. */
    void dueSteps(String what, LetterCounts x, int... want) {
        for (int k = 0; k < want.length; k++) {
            int at = k;
            due(what + ": step(" + k + ")", want[k], () -> x.step(at));
        }
        dueThrow(what + ": the step behind the last", IndexOutOfBoundsException.class,
                () -> x.step(want.length));
    }

    void dueText(String what, String want, String got) {
        made++;
        if (!want.equals(got)) {
            wrong++;
            told++;
            if (told <= MOST_TOLD) {
                System.out.println(sentence + what + " answered " + got + ", due is " + want);
            }
        }
    }

    static String textOf(Call call) {
        try {
            return Long.toString(call.answer());
        } catch (RuntimeException e) {
            return "throws." + e.getClass().getSimpleName();
        }
    }

    private static String thrownBy(Runnable test) {
        try {
            test.run();
            return "nothing thrown";
        } catch (RuntimeException e) {
            return "throws." + e.getClass().getSimpleName();
        }
    }

    int wrong() {
        return wrong;
    }

    void end() {
        System.out.println(made + " answers looked at, " + wrong + " not as due");
        if (wrong != 0 || made == 0) {
            System.exit(1);
        }
    }
}
