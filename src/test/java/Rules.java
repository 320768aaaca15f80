/** Objects with given rules, and arguments that are just outside what the document allows, or far. */
final class Rules {
    static final int[] NO_NONTERMINALS = {-1, 5, 6, 7, 8, Integer.MIN_VALUE, Integer.MAX_VALUE};
    static final int[] NO_NUMBERS = {-1, 8, 9, 16, 64, Integer.MIN_VALUE, Integer.MAX_VALUE};
    static final int[] NO_SYMBOLS = {-2, 8, 9, Integer.MIN_VALUE, Integer.MAX_VALUE};

    private Rules() {
    }

    static LetterCounts of(int[]... rules) {
        LetterCounts x = new LetterCounts();
        add(x, rules);
        return x;
    }

    static void add(LetterCounts x, int[]... rules) {
        for (int[] rule : rules) {
            x.rule(rule[0], rule[1], rule[2], rule[3], rule[4]);
        }
    }

    /** A rule; places that are not given are empty. */
    static int[] r(int left, int... symbols) {
        int[] rule = {left, -1, -1, -1, -1};
        System.arraycopy(symbols, 0, rule, 1, symbols.length);
        return rule;
    }
}
