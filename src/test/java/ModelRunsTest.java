/** Long mixed runs of calls on the class and on the plain model: all answers and throws are the same. */
public final class ModelRunsTest {
    private static final int RUNS = 150;
    private static final int CALLS = 500;

    private final Checks checks = new Checks();
    private long seed = 20261115;
    private LetterCounts x;
    private PlainModel model;
    private int lettersInTen;
    private int nonesInTen;
    private boolean wrongInputs;

    public static void main(String[] args) {
        new ModelRunsTest().run();
    }

    private void run() {
        for (int run = 0; run < RUNS && checks.wrong() == 0; run++) {
            x = new LetterCounts();
            model = new PlainModel();
            lettersInTen = 1 + next(6);
            nonesInTen = next(6);
            wrongInputs = next(3) > 0;
            StringBuilder calls = new StringBuilder();
            for (int k = 0; k < CALLS && checks.wrong() == 0; k++) {
                call(run, calls);
            }
            if (checks.wrong() > 0) {
                System.out.println(calls);
            }
        }
        checks.end();
    }

    private void call(int run, StringBuilder calls) {
        int kind = next(200);
        int n = among(0, 4);
        int a = among(0, 7);
        int b = among(0, 7);
        int c = among(0, 7);
        if (kind < 2) {
            compare(run, calls, "clear()", () -> clearOf(x::clear), () -> clearOf(model::clear));
        } else if (kind < 20) {
            int[] s = {symbol(), symbol(), symbol(), symbol()};
            compare(run, calls, "rule(" + n + ", " + s[0] + ", " + s[1] + ", " + s[2] + ", " + s[3] + ")",
                    () -> x.rule(n, s[0], s[1], s[2], s[3]), () -> model.rule(n, s[0], s[1], s[2], s[3]));
        } else if (kind < 60) {
            compare(run, calls, "height(" + n + ", " + a + ", " + b + ", " + c + ")",
                    () -> x.height(n, a, b, c), () -> model.height(n, a, b, c));
        } else if (kind < 70) {
            compare(run, calls, "many(" + n + ")", () -> x.many(n), () -> model.many(n));
        } else if (kind < 90) {
            int k = among(0, next(2) == 0 ? 20 : 511);
            compare(run, calls, "count(" + n + ", " + k + ")", () -> x.count(n, k), () -> model.count(n, k));
        } else if (kind < 120) {
            deriveSomething(run, calls, n, a, b, c);
        } else if (kind < 150) {
            int k = among(0, next(3) > 0 ? 12 : 120);
            compare(run, calls, "step(" + k + ")", () -> x.step(k), () -> model.step(k));
        } else if (kind < 160) {
            int r = among(0, 9);
            int many = among(0, next(3) > 0 ? 3 : 50);
            compare(run, calls, "use(" + r + ", " + many + ")", () -> x.use(r, many), () -> model.use(r, many));
        } else if (kind < 185) {
            compare(run, calls, "fit(" + n + ")", () -> x.fit(n), () -> model.fit(n));
        } else {
            int letter = among(0, 2);
            compare(run, calls, "letters(" + letter + ")", () -> x.letters(letter), () -> model.letters(letter));
        }
    }

    /** Mostly a count that the nonterminal has, and then all its steps. */
    private void deriveSomething(int run, StringBuilder calls, int n, int a, int b, int c) {
        int had = n >= 0 && n <= 4 ? model.many(n) : 0;
        int count = had > 0 && next(5) > 0 ? model.count(n, next(had)) : -1;
        int a1 = count < 0 ? a : count % 8;
        int b1 = count < 0 ? b : count / 8 % 8;
        int c1 = count < 0 ? c : count / 64;
        compare(run, calls, "derive(" + n + ", " + a1 + ", " + b1 + ", " + c1 + ")",
                () -> x.derive(n, a1, b1, c1), () -> model.derive(n, a1, b1, c1));
        checks.dueText("run " + run + ": all steps", steps(model::step), steps(x::step));
        checks.dueText("run " + run + ": all letters", letters(model::letters), letters(x::letters));
    }

    private interface Row {
        int at(int k);
    }

    private static String steps(Row row) {
        StringBuilder text = new StringBuilder();
        for (int k = 0; k <= 500; k++) {
            int at = k;
            String step = Checks.textOf(() -> row.at(at));
            text.append(step).append(' ');
            if (step.startsWith("throws")) {
                break;
            }
        }
        return text.toString();
    }

    private static String letters(Row row) {
        return row.at(0) + " " + row.at(1) + " " + row.at(2);
    }

    private static long clearOf(Runnable clear) {
        clear.run();
        return 0;
    }

    private void compare(int run, StringBuilder calls, String what, Checks.Call got, Checks.Call want) {
        calls.append(what).append('\n');
        String due = Checks.textOf(want).replace("ArrayIndexOutOf", "IndexOutOf");
        checks.dueText("run " + run + ": " + what, due, Checks.textOf(got));
    }

    private int symbol() {
        int kind = next(10);
        if (kind < nonesInTen) {
            return -1;
        }
        if (wrongInputs && next(60) == 0) {
            return next(2) == 0 ? -2 : 8;
        }
        return next(10) < lettersInTen ? 5 + next(3) : next(5);
    }

    /** A number between two bounds, now and then one beside them. */
    private int among(int least, int most) {
        int odd = wrongInputs ? next(40) : 40;
        if (odd == 0) {
            return least - 1;
        }
        if (odd == 1) {
            return most + 1;
        }
        if (odd == 2) {
            return next(2) == 0 ? Integer.MIN_VALUE : Integer.MAX_VALUE;
        }
        return least + next(most - least + 1);
    }

    private int next(int bound) {
        seed = seed * 6364136223846793005L + 1442695040888963407L;
        return (int) ((seed >>> 33) % bound);
    }
}
