/** fit answers 0 just when a search finds a derivation, for many small grammars and all small uses. */
public final class FitMeaningTest {
    private static final int[][] LOOPS_AND_LEAVES = {
        {0, 1, 1, -1, -1}, {0, 5, -1, -1, -1}, {1, 1, -1, -1, -1}, {1, 6, 0, -1, -1}, {1, -1, -1, -1, -1},
    };
    private static final int[][] APART = {
        {0, 5, -1, -1, -1}, {1, 2, -1, -1, -1}, {2, 1, -1, -1, -1}, {3, 4, 6, -1, -1}, {4, 3, -1, -1, -1},
    };
    private static final int[][] JOINED_BY_ONE_RULE = {
        {4, 3, 3, -1, -1}, {3, 7, -1, -1, -1}, {3, 2, -1, -1, -1}, {2, 3, -1, -1, -1}, {2, 2, -1, -1, -1},
    };
    private static final int[][] WIDE = {
        {0, 0, 0, 0, 0}, {0, 1, 0, 1, 5}, {1, -1, -1, -1, -1}, {0, 7, 7, -1, -1}, {2, 2, 0, -1, -1},
    };
    private static final int[][] LONE_LOOPS = {
        {4, 4, -1, -1, -1}, {0, 0, -1, -1, -1}, {3, 5, -1, -1, -1}, {4, 3, -1, -1, -1}, {0, 4, -1, -1, -1},
    };
    private static final int MOST = 3;

    private final Checks checks = new Checks();
    private final int[] answers = new int[16];

    public static void main(String[] args) {
        FitMeaningTest test = new FitMeaningTest();
        test.compareAll("loops and leaves", LOOPS_AND_LEAVES);
        test.compareAll("apart", APART);
        test.compareAll("joined by one rule", JOINED_BY_ONE_RULE);
        test.compareAll("wide", WIDE);
        test.compareAll("lone loops", LONE_LOOPS);
        test.checks.dueText("each answer came up", "true", Boolean.toString(test.sawAll()));
        test.checks.end();
    }

    private void compareAll(String name, int[][] rules) {
        PlainModel model = new PlainModel();
        for (int[] r : rules) {
            model.rule(r[0], r[1], r[2], r[3], r[4]);
        }
        int all = 1;
        for (int r = 0; r < rules.length; r++) {
            all *= MOST + 1;
        }
        for (int mix = 0; mix < all; mix++) {
            // A new one each time, for an object has but 512 calls.
            LetterCounts x = Rules.of(rules);
            int rest = mix;
            for (int r = 0; r < rules.length; r++) {
                x.use(r, rest % (MOST + 1));
                model.use(r, rest % (MOST + 1));
                rest /= MOST + 1;
            }
            compare(name + ", uses " + mix, x, model);
        }
    }

    private void compare(String name, LetterCounts x, PlainModel model) {
        for (int n = 0; n < 5; n++) {
            int start = n;
            int got = x.fit(n);
            checks.due(name + ": fit(" + n + ")", model.fit(n), () -> x.fit(start));
            checks.dueText(name + ": fit(" + n + ") is 0", Boolean.toString(model.someDerivation(n)),
                    Boolean.toString(got == 0));
            if (got >= 0 && got < answers.length) {
                answers[got]++;
            }
        }
    }

    private boolean sawAll() {
        boolean all = true;
        for (int answer : new int[] {0, 1, 2, 3, 4, 5, 11, 12, 13, 14, 15}) {
            all &= answers[answer] > 0;
        }
        return all;
    }
}
