/** Mixed runs of 512 calls on the class and on the plain model: all answers and throws are the same. */
public final class ModelRunsTest {
    private static final int RUNS = 400;

    /** Nothing is promised about an object behind so many. */
    private static final int MOST_CALLS = 512;

    private final Checks checks = new Checks();
    private long seed = 20261115;
    private LetterCounts x;
    private PlainModel model;
    private StringBuilder calls;
    private int callsMade;
    private int oddOnes;
    private int leavesInTen;
    private int nonesInTen;
    private int lettersInTen;

    public static void main(String[] args) {
        new ModelRunsTest().run();
    }

    private void run() {
        for (int run = 0; run < RUNS && checks.wrong() == 0; run++) {
            x = new LetterCounts();
            model = new PlainModel();
            calls = new StringBuilder("run " + run + "\n");
            callsMade = 0;
            setUp();
            while (callsMade < MOST_CALLS && checks.wrong() == 0) {
                call();
            }
            if (checks.wrong() > 0) {
                System.out.println(calls);
            }
        }
        checks.end();
    }

    private void setUp() {
        oddOnes = next(3) > 0 ? 60 : 0;
        leavesInTen = 2 + next(4);
        nonesInTen = next(7);
        lettersInTen = next(6);
        int shape = next(6);
        if (shape == 0) {
            setUpBushes();
        } else if (shape == 1) {
            setUpRings();
        } else {
            for (int k = 2 + next(8); k > 0; k--) {
                addRule();
            }
        }
    }

    /** Each nonterminal leads to some of the next one: trees around the limits of derive. */
    private void setUpBushes() {
        for (int n = 0; n < 4; n++) {
            rule(n, n + 1, n + 1, next(4) > 0 ? n + 1 : -1, next(3) > 0 ? n + 1 : -1);
        }
        rule(4, -1, -1, -1, -1);
        for (int k = next(6); k > 0; k--) {
            rule(next(5), 5 + next(3), next(3) == 0 ? 4 : -1, -1, -1);
        }
    }

    /** A ring of rules with few letters, so that trees get high and uses can go round without the start. */
    private void setUpRings() {
        int size = 1 + next(5);
        for (int n = 0; n < size; n++) {
            rule(n, (n + 1) % size, next(2) == 0 ? 5 + next(3) : -1, -1, -1);
        }
        rule(next(size), 5 + next(3), -1, -1, -1);
        rule(next(5), next(5), next(5), -1, -1);
    }

    private void call() {
        int kind = next(200);
        if (kind < 1) {
            compare("clear()", () -> clearOf(x::clear), () -> clearOf(model::clear));
            setUp();
        } else if (kind < 4) {
            addRule();
        } else if (kind < 50) {
            callHeight();
        } else if (kind < 60) {
            int n = among(0, 4);
            compare("many(" + n + ")", () -> x.many(n), () -> model.many(n));
        } else if (kind < 80) {
            callCount();
        } else if (kind < 115) {
            callDerive();
        } else if (kind < 140) {
            int k = among(0, next(3) > 0 ? 12 : 120);
            compare("step(" + k + ")", () -> x.step(k), () -> model.step(k));
        } else if (kind < 160) {
            int r = among(0, 9);
            int many = among(0, next(4) > 0 ? 2 : 50);
            compare("use(" + r + ", " + many + ")", () -> x.use(r, many), () -> model.use(r, many));
        } else if (kind < 190) {
            int n = among(0, 4);
            compare("fit(" + n + ")", () -> x.fit(n), () -> model.fit(n));
        } else {
            int letter = among(0, 2);
            compare("letters(" + letter + ")", () -> x.letters(letter), () -> model.letters(letter));
        }
    }

    private void addRule() {
        boolean leaf = next(10) < leavesInTen;
        rule(among(0, 4), symbol(leaf), symbol(leaf), symbol(leaf), symbol(leaf));
    }

    private void rule(int left, int a, int b, int c, int d) {
        compare("rule(" + left + ", " + a + ", " + b + ", " + c + ", " + d + ")",
                () -> x.rule(left, a, b, c, d), () -> model.rule(left, a, b, c, d));
    }

    private void callHeight() {
        int n = among(0, 4);
        int count = countFor(n);
        int a = count % 8;
        int b = count / 8 % 8;
        int c = among(count / 64, count / 64);
        compare("height(" + n + ", " + a + ", " + b + ", " + c + ")",
                () -> x.height(n, a, b, c), () -> model.height(n, a, b, c));
    }

    private void callCount() {
        int n = among(0, 4);
        int had = n >= 0 && n <= 4 ? model.many(n) : 0;
        int k = next(8) > 0 && had > 0 ? next(had) : among(had - 1, had);
        compare("count(" + n + ", " + k + ")", () -> x.count(n, k), () -> model.count(n, k));
    }

    private void callDerive() {
        int n = among(0, 4);
        int count = countFor(n);
        int a = among(count % 8, count % 8);
        int b = among(count / 8 % 8, count / 8 % 8);
        int c = count / 64;
        compare("derive(" + n + ", " + a + ", " + b + ", " + c + ")",
                () -> x.derive(n, a, b, c), () -> model.derive(n, a, b, c));
        compareSteps();
        for (int k = 0; k < 3; k++) {
            int letter = k;
            compare("letters(" + letter + ")", () -> x.letters(letter), () -> model.letters(letter));
        }
        compare("fit(" + n + ")", () -> x.fit(n), () -> model.fit(n));
    }

    private void compareSteps() {
        boolean more = true;
        for (int k = 0; more; k++) {
            int at = k;
            compare("step(" + k + ")", () -> x.step(at), () -> model.step(at));
            more = k < model.steps();
        }
    }

    /** Mostly a count that the nonterminal has. */
    private int countFor(int n) {
        int had = n >= 0 && n <= 4 ? model.many(n) : 0;
        return had > 0 && next(6) > 0 ? model.count(n, next(had)) : next(512);
    }

    private static long clearOf(Runnable clear) {
        clear.run();
        return 0;
    }

    private void compare(String what, Checks.Call got, Checks.Call want) {
        if (callsMade == MOST_CALLS) {
            return;
        }
        callsMade++;
        calls.append(what).append('\n');
        checks.dueText(what, Checks.textOf(want), Checks.textOf(got));
    }

    private int symbol(boolean leaf) {
        if (next(10) < nonesInTen) {
            return -1;
        }
        if (oddOnes > 0 && next(oddOnes) == 0) {
            return next(2) == 0 ? -2 : 8;
        }
        return leaf || next(10) < lettersInTen ? 5 + next(3) : next(5);
    }

    /** A number between two bounds, now and then one beside them. */
    private int among(int least, int most) {
        int odd = oddOnes > 0 ? next(oddOnes) : 3;
        if (odd == 0) {
            return least - 1;
        }
        if (odd == 1) {
            return most + 1;
        }
        if (odd == 2) {
            return next(2) == 0 ? Integer.MIN_VALUE : Integer.MAX_VALUE;
        }
        return least + next(most - least + 1);
    }

    private int next(int bound) {
        seed = seed * 6364136223846793005L + 1442695040888963407L;
        return (int) ((seed >>> 33) % bound);
    }
}
