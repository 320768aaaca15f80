import java.util.ArrayList;
import java.util.List;

/**
 * "A call that throws changes nothing": of two like objects one refuses a call, and then all that can be seen
 * of both is compared.
 */
public final class RefusedCallsTest {
    /** Makes an object in some state, each time the same. */
    interface State {
        LetterCounts make();
    }

    /** A call that some states refuse. */
    interface Refused {
        long call(LetterCounts x);
    }

    private static final int MOST_RULES = 10;
    private static final int[][] SOME_COUNTS = {
        {0, 0, 0}, {1, 0, 0}, {2, 0, 0}, {3, 0, 0}, {0, 1, 0}, {0, 0, 1}, {1, 1, 0}, {7, 7, 7},
    };

    private final Checks checks = new Checks();
    private final List<String> stateNames = new ArrayList<>();
    private final List<State> states = new ArrayList<>();
    private final List<Refused> all = new ArrayList<>();

    public static void main(String[] args) {
        RefusedCallsTest test = new RefusedCallsTest();
        test.addStates();
        test.refusedBuilding();
        test.refusedLooking();
        test.refusedDeriving();
        test.refusedUsing();
        test.manyAtOnce();
        test.checks.end();
    }

    private void addStates() {
        addState("new", LetterCounts::new);
        addState("rules that nothing was asked about", RefusedCallsTest::bushes);
        addState("a tree", RefusedCallsTest::withTree);
        addState("a tree, then other uses", RefusedCallsTest::withTreeAndUses);
        addState("ten rules and a tree", RefusedCallsTest::withTenRules);
        addState("cleared", RefusedCallsTest::cleared);
    }

    private void addState(String name, State state) {
        stateNames.add(name);
        states.add(state);
    }

    /** Nonterminal 0 has a tree that is too large, nonterminal 4 has small ones. */
    private static LetterCounts bushes() {
        return Rules.of(Rules.r(0, 1, 1, 1, 1), Rules.r(1, 2, 2, 2, 2), Rules.r(2, 3, 3, 3, 3), Rules.r(3, 5),
                Rules.r(3), Rules.r(4, 3, 3));
    }

    private static LetterCounts withTree() {
        LetterCounts x = bushes();
        x.derive(4, 1, 0, 0);
        return x;
    }

    private static LetterCounts withTreeAndUses() {
        LetterCounts x = withTree();
        x.use(0, 50);
        x.use(3, 7);
        x.use(4, 0);
        return x;
    }

    private static LetterCounts withTenRules() {
        LetterCounts x = bushes();
        Rules.add(x, Rules.r(4, 6), Rules.r(4, 7), Rules.r(4, 4, 4), Rules.r(4, 4));
        x.derive(4, 2, 1, 1);
        return x;
    }

    private static LetterCounts cleared() {
        LetterCounts x = withTenRules();
        x.clear();
        return x;
    }

    private void refusedBuilding() {
        refuse("rule, left too small", x -> x.rule(-1, 5, 5, 5, 5));
        refuse("rule, left too large", x -> x.rule(5, 5, 5, 5, 5));
        refuse("rule, first symbol too small", x -> x.rule(4, -2, 6, 6, 6));
        refuse("rule, second symbol too large", x -> x.rule(4, 6, 8, 6, 6));
        refuse("rule, third symbol too small", x -> x.rule(4, 6, 6, -2, 6));
        refuse("rule, last symbol too large", x -> x.rule(4, 6, 6, 6, 8));
        refuse("rule, there are ten", x -> x.rule(4, 6, 6, 6, -1));
    }

    private void refusedLooking() {
        refuse("height, no such nonterminal", x -> x.height(5, 0, 0, 0));
        refuse("height, no such number", x -> x.height(4, 0, 8, 0));
        refuse("many, no such nonterminal", x -> x.many(-1));
        refuse("count, no such nonterminal", x -> x.count(5, 0));
        refuse("count, too small", x -> x.count(4, -1));
        refuse("count, too large", x -> x.count(4, 512));
        refuse("step, too small", x -> x.step(-1));
        refuse("step, too large", x -> x.step(500));
        refuse("fit, no such nonterminal", x -> x.fit(5));
        refuse("letters, no such letter", x -> x.letters(3));
    }

    private void refusedDeriving() {
        refuse("derive, no such nonterminal", x -> x.derive(5, 1, 0, 0));
        refuse("derive, no such number", x -> x.derive(4, 0, 0, -1));
        refuse("derive, not had", x -> x.derive(4, 7, 7, 7));
        refuse("derive, too large with a letter", x -> x.derive(0, 1, 0, 0));
        refuse("derive, too large without letters", x -> x.derive(0, 0, 0, 0));
    }

    private void refusedUsing() {
        refuse("use, rule too small", x -> x.use(-1, 1));
        refuse("use, rule too large", x -> x.use(10, 1));
        refuse("use, too few", x -> x.use(0, -1));
        refuse("use, too many", x -> x.use(0, 51));
    }

    private void refuse(String name, Refused call) {
        all.add(call);
        checks.sentence("A call that throws changes nothing: " + name, () -> compareStates(call));
    }

    private void compareStates(Refused call) {
        int refusing = 0;
        for (int k = 0; k < states.size(); k++) {
            LetterCounts x = states.get(k).make();
            if (isRefused(call, x)) {
                refusing++;
                checks.dueText(stateNames.get(k), seenOf(states.get(k).make()), seenOf(x));
            }
        }
        checks.dueText("a state refuses it", "true", Boolean.toString(refusing > 0));
    }

    /** All refused calls one behind the other. */
    private void manyAtOnce() {
        for (int k = 0; k < states.size(); k++) {
            LetterCounts x = states.get(k).make();
            for (Refused call : all) {
                // One that this state takes is left out, for it would change something.
                if (isRefused(call, states.get(k).make())) {
                    checks.dueText("refused again", "true", Boolean.toString(isRefused(call, x)));
                }
            }
            checks.dueText("all refused calls, " + stateNames.get(k), seenOf(states.get(k).make()), seenOf(x));
        }
    }

    private static boolean isRefused(Refused call, LetterCounts x) {
        return Checks.textOf(() -> call.call(x)).startsWith("throws.");
    }

    /** All that can be seen of an object, in far fewer than 512 calls; it is not to be used any more then. */
    private static String seenOf(LetterCounts x) {
        StringBuilder seen = new StringBuilder("steps");
        String step = "";
        for (int k = 0; !step.startsWith("throws."); k++) {
            int at = k;
            step = Checks.textOf(() -> x.step(at));
            seen.append(' ').append(step);
        }
        seen.append(" fit");
        for (int n = 0; n < 5; n++) {
            int start = n;
            seen.append(' ').append(Checks.textOf(() -> x.fit(start)));
        }
        seen.append(" letters");
        for (int letter = 0; letter < 3; letter++) {
            int asked = letter;
            seen.append(' ').append(Checks.textOf(() -> x.letters(asked)));
        }
        addCounts(seen, x);
        seen.append(" uses");
        for (int k = 0; k < MOST_RULES; k++) {
            int rule = k;
            seen.append(' ').append(Checks.textOf(() -> x.use(rule, 0)));
        }
        seen.append(" next ").append(Checks.textOf(() -> x.rule(0, -1, -1, -1, -1)));
        return seen.toString();
    }

    private static void addCounts(StringBuilder seen, LetterCounts x) {
        for (int n = 0; n < 5; n++) {
            int asked = n;
            seen.append(" counts of ").append(n).append(": ").append(Checks.textOf(() -> x.many(asked)));
            for (int k = 0; k < 12; k++) {
                int at = k;
                seen.append(' ').append(Checks.textOf(() -> x.count(asked, at)));
            }
            for (int[] count : SOME_COUNTS) {
                seen.append(' ').append(Checks.textOf(() -> x.height(asked, count[0], count[1], count[2])));
            }
        }
    }
}
