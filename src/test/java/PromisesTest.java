import java.util.NoSuchElementException;

/** Each promise of the document by itself: ordinary inputs, the edges it names, and wrong inputs. */
public final class PromisesTest {
    private static final Class<IllegalArgumentException> ARGUMENT = IllegalArgumentException.class;
    private static final Class<IndexOutOfBoundsException> INDEX = IndexOutOfBoundsException.class;
    private static final int[] NO_NONTERMINALS = {-1, 5, 6, Integer.MIN_VALUE, Integer.MAX_VALUE};
    private static final int[] NO_NUMBERS = {-1, 8, Integer.MIN_VALUE, Integer.MAX_VALUE};

    private final Checks checks = new Checks();

    public static void main(String[] args) {
        PromisesTest test = new PromisesTest();
        test.promise1NewObject();
        test.promise2Rule();
        test.promise2WrongRules();
        test.promise2UsesAreZero();
        test.promise3Clear();
        test.promise4Height();
        test.promise4TallTrees();
        test.promise4CountsUpToSeven();
        test.promise4WrongInputs();
        test.promise5Many();
        test.promise6Count();
        test.promise7LeastRule();
        test.promise7FirstCounts();
        test.promise7HeightGoesFirst();
        test.promise7TooManyOfALetter();
        test.promise7Uses();
        test.promise7Limits();
        test.promise7ThrowsChangeNothing();
        test.promise8Step();
        test.promise9Use();
        test.promise10Fit();
        test.promise10WhatComesFirst();
        test.promise11Letters();
        test.checks.end();
    }

    private static LetterCounts of(int[]... rules) {
        LetterCounts x = new LetterCounts();
        for (int[] r : rules) {
            x.rule(r[0], r[1], r[2], r[3], r[4]);
        }
        return x;
    }

    private static int[] r(int left, int... symbols) {
        int[] rule = {left, -1, -1, -1, -1};
        System.arraycopy(symbols, 0, rule, 1, symbols.length);
        return rule;
    }

    private void dueSteps(String what, LetterCounts x, int... want) {
        for (int k = 0; k < want.length; k++) {
            int at = k;
            checks.due(what + ": step(" + k + ")", want[k], () -> x.step(at));
        }
        checks.dueThrow(what + ": the step behind the last", INDEX, () -> x.step(want.length));
    }

    private void promise1NewObject() {
        LetterCounts x = new LetterCounts();
        for (int n = 0; n < 5; n++) {
            int m = n;
            checks.due("new: many(" + n + ")", 0, () -> x.many(m));
            checks.due("new: height(" + n + ")", -1, () -> x.height(m, 0, 0, 0));
            checks.due("new: fit(" + n + ")", 1 + n, () -> x.fit(m));
            checks.dueThrow("new: count(" + n + ", 0)", INDEX, () -> x.count(m, 0));
            checks.dueThrow("new: derive(" + n + ")", NoSuchElementException.class,
                    () -> x.derive(m, 0, 0, 0));
        }
        checks.due("new: letters(0)", 0, () -> x.letters(0));
        checks.dueThrow("new: step(0)", INDEX, () -> x.step(0));
        checks.dueThrow("new: use(0, 0)", ARGUMENT, () -> x.use(0, 0));
        checks.due("new: first rule", 0, () -> x.rule(0, -1, -1, -1, -1));
        checks.due("another new one: many(0)", 0, () -> new LetterCounts().many(0));
    }

    private void promise2Rule() {
        LetterCounts x = new LetterCounts();
        for (int k = 0; k < 10; k++) {
            int at = k;
            checks.due("rule " + k, k, () -> x.rule(at % 5, -1, 7, -1, 5));
        }
        checks.dueThrow("rule 10", IllegalStateException.class, () -> x.rule(0, 5, -1, -1, -1));
        checks.dueThrow("rule 10, wrong too", ARGUMENT, () -> x.rule(5, 5, -1, -1, -1));
        checks.due("the none places count for nothing", 1, () -> x.height(0, 1, 0, 1));
        checks.due("rule 10 is not there", 1, () -> x.many(0));
        LetterCounts y = of(r(0, -1, 1, -1, 2), r(1, -1, -1, -1, 5), r(2, 6, 6, 6, 6));
        checks.due("nonterminals behind none", 2, () -> y.height(0, 1, 4, 0));
        checks.due("its tree", 3, () -> y.derive(0, 1, 4, 0));
        dueSteps("its tree", y, 0, 1, 2);
    }

    private void promise2WrongRules() {
        LetterCounts x = of(r(0, 5));
        for (int wrong : NO_NONTERMINALS) {
            checks.dueThrow("rule of " + wrong, ARGUMENT, () -> x.rule(wrong, -1, -1, -1, -1));
        }
        for (int wrong : new int[] {-2, 8, Integer.MIN_VALUE, Integer.MAX_VALUE}) {
            checks.dueThrow("first symbol " + wrong, ARGUMENT, () -> x.rule(0, wrong, -1, -1, -1));
            checks.dueThrow("second symbol " + wrong, ARGUMENT, () -> x.rule(0, -1, wrong, -1, -1));
            checks.dueThrow("third symbol " + wrong, ARGUMENT, () -> x.rule(0, -1, -1, wrong, -1));
            checks.dueThrow("fourth symbol " + wrong, ARGUMENT, () -> x.rule(0, -1, -1, -1, wrong));
        }
        checks.due("wrong rules leave no rule", 1, () -> x.many(0));
        checks.due("wrong rules take no number", 1, () -> x.rule(4, 0, 4, 5, 7));
    }

    private void promise2UsesAreZero() {
        LetterCounts x = of(r(0, 5));
        x.use(0, 50);
        x.clear();
        x.rule(0, 6, -1, -1, -1);
        checks.due("uses of a rule in an old one's place", 0, () -> x.use(0, 7));
        x.rule(1, 6, -1, -1, -1);
        checks.due("uses of a new rule", 0, () -> x.use(1, 0));
        checks.due("a new rule leaves the others' uses", 7, () -> x.use(0, 7));
    }

    private void promise3Clear() {
        LetterCounts x = of(r(0, 0, 0), r(0, 5), r(1, 6, 7));
        x.derive(0, 3, 0, 0);
        x.clear();
        checks.due("clear: many(0)", 0, () -> x.many(0));
        checks.due("clear: height", -1, () -> x.height(1, 0, 1, 1));
        checks.due("clear: letters(0)", 0, () -> x.letters(0));
        checks.due("clear: fit(0)", 1, () -> x.fit(0));
        checks.dueThrow("clear: step(0)", INDEX, () -> x.step(0));
        checks.dueThrow("clear: use(0, 0)", ARGUMENT, () -> x.use(0, 0));
        for (int k = 0; k < 10; k++) {
            int at = k;
            checks.due("clear: rule " + k, k, () -> x.rule(0, 1, 1, 1, 1));
        }
        checks.due("clear: nothing of the old rules is left", 0, () -> x.many(0) + x.many(1));
        x.clear();
        x.rule(1, 5, -1, -1, -1);
        checks.due("clear: a shorter rule in a longer one's place", 1, () -> x.many(1));
    }

    private void promise4Height() {
        LetterCounts x = of(r(0, 0, 0), r(0, 5), r(1, 0, 2), r(2, 2, 6), r(2, 6));
        checks.due("one leaf", 1, () -> x.height(0, 1, 0, 0));
        checks.due("two leaves", 2, () -> x.height(0, 2, 0, 0));
        checks.due("three leaves", 3, () -> x.height(0, 3, 0, 0));
        checks.due("four leaves", 3, () -> x.height(0, 4, 0, 0));
        checks.due("seven leaves", 4, () -> x.height(0, 7, 0, 0));
        checks.due("no word is empty", -1, () -> x.height(0, 0, 0, 0));
        checks.due("the higher of two", 8, () -> x.height(1, 7, 7, 0));
        checks.due("the other letter only", -1, () -> x.height(2, 1, 1, 0));
        checks.due("no rules for it", -1, () -> x.height(3, 1, 0, 0));
        x.rule(1, 5, 5, 6, -1);
        checks.due("a rule more makes it less high", 1, () -> x.height(1, 2, 1, 0));
        LetterCounts y = of(r(0, 0), r(1, 2), r(2, 1, 5));
        checks.due("rules without an end", 0, () -> y.many(0) + y.many(1) + y.many(2));
    }

    /** The highest least trees there are: a ring of all nonterminals for each letter more. */
    private void promise4TallTrees() {
        LetterCounts x = of(r(0, 1), r(1, 2), r(2, 3), r(3, 4), r(4, 0, 5), r(4, 0, 6), r(4, 0, 7), r(4));
        checks.due("the first end", 5, () -> x.height(0, 0, 0, 0));
        checks.due("round once", 10, () -> x.height(0, 0, 1, 0));
        checks.due("round as often as can be", 110, () -> x.height(0, 7, 7, 7));
        checks.due("all its steps", 110, () -> x.derive(0, 7, 7, 7));
        checks.due("its last step", 7, () -> x.step(109));
        checks.due("its step before", 3, () -> x.step(108));
        checks.due("letters in the order of counts", 21, () -> x.letters(0) + x.letters(1) + x.letters(2));
        checks.due("the least rule at the lowest letter", 6, () -> x.step(104));
        checks.due("the least rule at the first letter", 4, () -> x.step(4));
    }

    private void promise4CountsUpToSeven() {
        LetterCounts x = of(r(0, 5, 5, 5, 5), r(1, 0, 0), r(2, 0, 6), r(3, 2, 2), r(4, 7, 7, 7, 0), r(4, 4, 4));
        checks.due("four and four are too many", 0, () -> x.many(1));
        checks.due("they don't become another count", -1, () -> x.height(1, 0, 1, 0));
        checks.due("nor with other letters", 0, () -> x.many(3));
        checks.due("nor with the last letter", 1, () -> x.many(4));
        LetterCounts y = of(r(0, 6, 6, 6, 6), r(1, 0, 0), r(2, 7, 7, 7, 7), r(3, 2, 2), r(4, 4, 7), r(4, 5));
        checks.due("four and four of letter 1", 0, () -> y.many(1));
        checks.due("four and four of letter 2", 0, () -> y.many(3));
        checks.due("letter 2 up to seven", 8, () -> y.many(4));
        checks.due("seven of letter 2", 8, () -> y.height(4, 1, 0, 7));
    }

    private void promise4WrongInputs() {
        LetterCounts x = of(r(0, 5), r(4, 6));
        for (int wrong : NO_NONTERMINALS) {
            checks.dueThrow("height of " + wrong, ARGUMENT, () -> x.height(wrong, 0, 0, 0));
        }
        for (int wrong : NO_NUMBERS) {
            checks.dueThrow("height, a = " + wrong, ARGUMENT, () -> x.height(0, wrong, 0, 0));
            checks.dueThrow("height, b = " + wrong, ARGUMENT, () -> x.height(0, 0, wrong, 0));
            checks.dueThrow("height, c = " + wrong, ARGUMENT, () -> x.height(0, 0, 0, wrong));
        }
        checks.due("the last nonterminal", 1, () -> x.height(4, 0, 1, 0));
        checks.due("the last count", -1, () -> x.height(0, 7, 7, 7));
    }

    private void promise5Many() {
        LetterCounts x = of(r(0), r(0, 0, 5), r(0, 0, 6), r(0, 0, 7), r(1, 5, 6), r(1, 1, 1), r(2, 2), r(3, 5), r(3, 5));
        checks.due("all counts", 512, () -> x.many(0));
        checks.due("as many of two letters", 7, () -> x.many(1));
        checks.due("a rule that only goes round", 0, () -> x.many(2));
        checks.due("two rules with one count", 1, () -> x.many(3));
        checks.due("no rules", 0, () -> x.many(4));
        x.rule(4, 3, 3, -1, -1);
        checks.due("a new rule counts", 1, () -> x.many(4));
        for (int wrong : NO_NONTERMINALS) {
            checks.dueThrow("many(" + wrong + ")", ARGUMENT, () -> x.many(wrong));
        }
    }

    private void promise6Count() {
        LetterCounts x = of(r(0, 7), r(0, 6, 6), r(0, 5, 5, 5), r(0, 7, 7, 6, 5), r(1), r(1, 1, 5), r(1, 1, 6), r(1, 1, 7));
        int[] want = {3, 16, 64, 137};
        for (int k = 0; k < want.length; k++) {
            int at = k;
            checks.due("count(0, " + k + ")", want[k], () -> x.count(0, at));
        }
        checks.dueThrow("count(0, 4)", INDEX, () -> x.count(0, 4));
        checks.dueThrow("count(0, -1)", INDEX, () -> x.count(0, -1));
        checks.dueThrow("count(0, least)", INDEX, () -> x.count(0, Integer.MIN_VALUE));
        checks.dueThrow("count(0, most)", INDEX, () -> x.count(0, Integer.MAX_VALUE));
        checks.dueThrow("count(2, 0)", INDEX, () -> x.count(2, 0));
        for (int k = 0; k < 512; k++) {
            int at = k;
            checks.due("count(1, " + k + ")", k, () -> x.count(1, at));
        }
        checks.dueThrow("count(1, 512)", INDEX, () -> x.count(1, 512));
        for (int wrong : NO_NONTERMINALS) {
            checks.dueThrow("count(" + wrong + ", 0)", ARGUMENT, () -> x.count(wrong, 0));
            checks.dueThrow("count(" + wrong + ", -1)", ARGUMENT, () -> x.count(wrong, -1));
        }
    }

    private void promise7LeastRule() {
        LetterCounts x = of(r(0, 1), r(0, 5, 5), r(0, 5, 5), r(1, 5, 5), r(2, 1), r(2, 0), r(2, 1));
        checks.due("least height before least rule", 1, () -> x.derive(0, 2, 0, 0));
        dueSteps("least height before least rule", x, 1);
        checks.due("the least of three rules", 2, () -> x.derive(2, 2, 0, 0));
        dueSteps("the least of three rules", x, 4, 3);
    }

    private void promise7FirstCounts() {
        LetterCounts x = of(r(0, 1, 1), r(1, 5, 5), r(1, 5), r(1), r(1, 6), r(1, 5, 6), r(2, 1, 7, 1, 1));
        checks.due("two of letter 0", 3, () -> x.derive(0, 2, 0, 0));
        dueSteps("the first tree takes as few as can be", x, 0, 3, 1);
        checks.due("one and one", 3, () -> x.derive(0, 1, 1, 0));
        dueSteps("nothing comes first", x, 0, 3, 5);
        checks.due("two and one", 3, () -> x.derive(0, 2, 1, 0));
        dueSteps("letter 0 counts less than letter 1", x, 0, 2, 5);
        checks.due("three trees", 4, () -> x.derive(2, 3, 1, 1));
        dueSteps("the first, then the second", x, 6, 3, 1, 5);
        checks.due("two of letter 1", 3, () -> x.derive(0, 1, 2, 0));
        dueSteps("letter 1 in both", x, 0, 4, 5);
        LetterCounts y = of(r(0, 1, 2), r(1, 5), r(1, 6), r(1, 7), r(2, 5, 6), r(2, 5, 7), r(2, 6, 7));
        checks.due("one of each", 3, () -> y.derive(0, 1, 1, 1));
        dueSteps("the order of counts, not of rules behind them", y, 0, 1, 6);
        LetterCounts z = of(r(0, 1, 2), r(1, 7), r(1, 6), r(1, 5), r(2, 5, 6), r(2, 5, 7), r(2, 6, 7));
        checks.due("one of each, other rules", 3, () -> z.derive(0, 1, 1, 1));
        dueSteps("the order of counts, not of rules", z, 0, 3, 6);
    }

    /** A count may be had, and come first, and yet not be possible: its own tree is too high. */
    private void promise7HeightGoesFirst() {
        LetterCounts x = of(r(0, 1, 1), r(1, 2), r(2, 3), r(3), r(1, 5), r(1, 5, 5));
        checks.due("nothing is had", 3, () -> x.height(1, 0, 0, 0));
        checks.due("the height of both", 2, () -> x.height(0, 2, 0, 0));
        checks.due("one each, though none comes first", 3, () -> x.derive(0, 2, 0, 0));
        dueSteps("one each, though none comes first", x, 0, 4, 4);
        checks.due("none and one", 5, () -> x.derive(0, 1, 0, 0));
        dueSteps("where the height lets it, none is first", x, 0, 1, 2, 3, 4);
        LetterCounts y = of(r(0, 1, 2, 3, 4), r(1, 4), r(1, 5), r(2, 5), r(2), r(3, 5), r(3), r(4), r(4, 6));
        checks.due("four trees", 5, () -> y.derive(0, 2, 0, 0));
        dueSteps("four trees", y, 0, 2, 4, 5, 7);
        LetterCounts z = of(r(0, 1, 2), r(1), r(1, 5), r(2, 5), r(2, 3), r(3, 4), r(4, 5, 5));
        checks.due("what is left would be too high", 3, () -> z.derive(0, 2, 0, 0));
        dueSteps("what is left would be too high", z, 0, 2, 3);
    }

    /** A count with more of one letter than is left is not possible, whatever the numbers' difference is. */
    private void promise7TooManyOfALetter() {
        for (int letter = 0; letter < 2; letter++) {
            int s = 5 + letter;
            LetterCounts x = of(r(0, 1, 2), r(1, s), r(1, 4), r(4, s + 1), r(2), r(2, 3, s, s, s), r(3, s, s, s, s));
            int b = 1 - letter;
            int c = letter;
            checks.due("one of the next letter", 4, () -> x.derive(0, 0, b, c));
            dueSteps("one of the next letter", x, 0, 2, 3, 4);
        }
    }

    private void promise7Uses() {
        LetterCounts x = of(r(0, 0, 0), r(0, 5), r(1, 6), r(0, 6));
        x.use(2, 9);
        checks.due("derive", 5, () -> x.derive(0, 3, 0, 0));
        checks.due("uses of the root's rule", 2, () -> x.use(0, 2));
        checks.due("uses of the leaves' rule", 3, () -> x.use(1, 3));
        checks.due("uses of a rule that isn't in the tree", 0, () -> x.use(2, 0));
        checks.due("they fit", 0, () -> x.fit(0));
        checks.due("their letters", 3, () -> x.letters(0));
        for (int wrong : NO_NONTERMINALS) {
            checks.dueThrow("derive of " + wrong, ARGUMENT, () -> x.derive(wrong, 1, 0, 0));
        }
        for (int wrong : NO_NUMBERS) {
            checks.dueThrow("derive, a = " + wrong, ARGUMENT, () -> x.derive(0, wrong, 0, 0));
            checks.dueThrow("derive, b = " + wrong, ARGUMENT, () -> x.derive(0, 1, wrong, 0));
            checks.dueThrow("derive, c = " + wrong, ARGUMENT, () -> x.derive(0, 1, 0, wrong));
        }
    }

    /** With ten rules, a tree of more than 500 steps has more than 50 of one rule. */
    private void promise7Limits() {
        LetterCounts x = of(r(0, 1, 1, 1, 2), r(1, 3, 3, 3, 3), r(2, 4, 4), r(3, 4, 4, 4, 4), r(4));
        checks.due("fifty of one rule", 67, () -> x.derive(0, 0, 0, 0));
        checks.due("fifty of one rule: its uses", 50, () -> x.use(4, 50));
        checks.due("fifty of one rule: the last step", 4, () -> x.step(66));
        LetterCounts y = of(r(0, 1, 1, 1, 2), r(1, 3, 3, 3, 3), r(2, 4, 4, 4), r(3, 4, 4, 4, 4), r(4));
        checks.due("fifty-one are had", 4, () -> y.height(0, 0, 0, 0));
        checks.dueThrow("fifty-one of one rule", UnsupportedOperationException.class,
                () -> y.derive(0, 0, 0, 0));
        LetterCounts z = of(r(0, 1, 1, 1, 1), r(1, 2, 2, 2, 2), r(2, 3, 3, 3, 3), r(3, 4, 4, 4, 4), r(4, 5), r(4),
                r(4, 6), r(4, 4, 7));
        for (int k = 0; k < 8; k++) {
            int many = k;
            checks.dueThrow("hundreds of steps with " + k + " of letter 0", UnsupportedOperationException.class,
                    () -> z.derive(0, many, 0, 0));
        }
        checks.dueThrow("hundreds of steps, wrong number", ARGUMENT, () -> z.derive(0, 8, 0, 0));
        checks.due("a part of it", 21, () -> z.derive(2, 7, 7, 0));
    }

    private void promise7ThrowsChangeNothing() {
        LetterCounts x = of(r(0, 1, 1, 1, 1), r(1, 2, 2, 2, 2), r(2, 3, 3, 3, 3), r(3, 5), r(3), r(4, 3, 3));
        x.derive(4, 1, 0, 0);
        x.use(5, 8);
        checks.dueThrow("too large", UnsupportedOperationException.class, () -> x.derive(0, 1, 0, 0));
        checks.dueThrow("not had", NoSuchElementException.class, () -> x.derive(4, 3, 0, 0));
        checks.dueThrow("no nonterminal", ARGUMENT, () -> x.derive(5, 0, 0, 0));
        checks.dueThrow("no symbol", ARGUMENT, () -> x.rule(0, 8, 0, 0, 0));
        checks.dueThrow("no uses", ARGUMENT, () -> x.use(5, 51));
        dueSteps("the tree from before the throws", x, 5, 4, 3);
        checks.due("uses from before the throws", 8, () -> x.use(5, 8));
        checks.due("uses of the tree from before the throws", 1, () -> x.use(3, 1));
        checks.due("no uses of the large tree", 0, () -> x.use(0, 0));
    }

    private void promise8Step() {
        LetterCounts x = of(r(0, 1, 2, 3), r(1, 2, 5), r(2, 6), r(3, 2, 2));
        checks.dueThrow("no tree at first", INDEX, () -> x.step(0));
        checks.due("derive", 7, () -> x.derive(0, 1, 4, 0));
        dueSteps("from left to right, the root first", x, 0, 1, 2, 2, 3, 2, 2);
        checks.dueThrow("step(-1)", INDEX, () -> x.step(-1));
        checks.dueThrow("step(least)", INDEX, () -> x.step(Integer.MIN_VALUE));
        checks.dueThrow("step(most)", INDEX, () -> x.step(Integer.MAX_VALUE));
        x.use(0, 5);
        x.height(0, 0, 0, 0);
        checks.due("other calls leave the tree", 3, () -> x.step(4));
        x.derive(2, 0, 1, 0);
        dueSteps("a smaller tree", x, 2);
        x.rule(4, -1, -1, -1, -1);
        checks.dueThrow("behind rule()", INDEX, () -> x.step(0));
        checks.due("uses stay behind rule()", 1, () -> x.use(2, 1));
        x.derive(4, 0, 0, 0);
        for (int k = 5; k < 10; k++) {
            x.rule(4, -1, -1, -1, -1);
        }
        x.derive(4, 0, 0, 0);
        checks.dueThrow("rule 10", IllegalStateException.class, () -> x.rule(4, -1, -1, -1, -1));
        dueSteps("behind a rule() that throws", x, 4);
        x.clear();
        checks.dueThrow("behind clear()", INDEX, () -> x.step(0));
    }

    private void promise9Use() {
        LetterCounts x = of(r(0, 5), r(1, 6, 6));
        checks.due("at first", 0, () -> x.use(1, 50));
        checks.due("then", 50, () -> x.use(1, 0));
        checks.due("and then", 0, () -> x.use(1, 1));
        checks.due("the other rule's", 0, () -> x.use(0, 0));
        for (int wrong : new int[] {-1, 2, 9, 10, Integer.MIN_VALUE, Integer.MAX_VALUE}) {
            checks.dueThrow("use(" + wrong + ", 0)", ARGUMENT, () -> x.use(wrong, 0));
        }
        for (int wrong : new int[] {-1, 51, Integer.MIN_VALUE, Integer.MAX_VALUE}) {
            checks.dueThrow("use(1, " + wrong + ")", ARGUMENT, () -> x.use(1, wrong));
        }
        checks.due("wrong uses change nothing", 1, () -> x.use(1, 1));
        checks.due("use changes no counts", 1, () -> x.height(0, 1, 0, 0));
    }

    private void promise10Fit() {
        LetterCounts x = of(r(0, 1, 1), r(1, 5), r(1, 2, 2), r(2, 6), r(3, 3), r(4, 3), r(3, 4));
        checks.due("nothing in use", 1, () -> x.fit(0));
        checks.due("nothing in use, another start", 5, () -> x.fit(4));
        x.use(0, 1);
        checks.due("too few of the next one", 2, () -> x.fit(0));
        x.use(1, 2);
        checks.due("just as many", 0, () -> x.fit(0));
        checks.due("not from another start", 1, () -> x.fit(1));
        x.use(1, 3);
        checks.due("too many", 2, () -> x.fit(0));
        x.use(1, 1);
        x.use(2, 1);
        checks.due("too few further on", 3, () -> x.fit(0));
        x.use(3, 2);
        checks.due("just as many again", 0, () -> x.fit(0));
        x.use(4, 50);
        checks.due("a loop that can't be reached", 14, () -> x.fit(0));
        x.use(5, 1);
        x.use(6, 1);
        checks.due("the least one that can't be reached", 14, () -> x.fit(0));
        for (int wrong : NO_NONTERMINALS) {
            checks.dueThrow("fit(" + wrong + ")", ARGUMENT, () -> x.fit(wrong));
        }
    }

    private void promise10WhatComesFirst() {
        LetterCounts x = of(r(4, 4, 4), r(4, 7), r(0, 0), r(3, 2), r(2, 1), r(1, 3), r(4, 3), r(4, 0), r(0, -1));
        x.use(1, 1);
        checks.due("a leaf alone", 0, () -> x.fit(4));
        x.use(2, 1);
        checks.due("the least nonterminal is 0", 11, () -> x.fit(4));
        x.use(3, 1);
        checks.due("sums come before ways", 3, () -> x.fit(4));
        x.use(4, 1);
        x.use(5, 1);
        checks.due("ways again", 11, () -> x.fit(4));
        x.use(2, 0);
        checks.due("the least of three in a ring", 12, () -> x.fit(4));
        x.use(7, 1);
        x.use(8, 1);
        x.use(0, 1);
        checks.due("a ring beside a tree", 12, () -> x.fit(4));
        x.use(2, 50);
        checks.due("a loop that can be reached", 12, () -> x.fit(4));
        x.use(3, 0);
        x.use(4, 0);
        x.use(5, 0);
        checks.due("a loop that can be reached, alone", 0, () -> x.fit(4));
        LetterCounts y = of(r(4, 3), r(3, 2), r(2, 1), r(1, 0), r(0, 5));
        for (int k = 0; k < 5; k++) {
            y.use(k, 1);
        }
        checks.due("the longest way, rules in its order", 0, () -> y.fit(4));
        LetterCounts z = of(r(0, 5), r(1, 0), r(2, 1), r(3, 2), r(4, 3));
        for (int k = 0; k < 5; k++) {
            z.use(k, 1);
        }
        checks.due("the longest way, rules against it", 0, () -> z.fit(4));
    }

    private void promise11Letters() {
        LetterCounts x = of(r(0, 5, 5, 5, 5), r(1, 0, 6, 5), r(2, 7), r(2));
        checks.due("nothing in use", 0, () -> x.letters(0) + x.letters(1) + x.letters(2));
        x.use(0, 50);
        x.use(1, 3);
        x.use(3, 50);
        checks.due("letter 0", 203, () -> x.letters(0));
        checks.due("letter 1", 3, () -> x.letters(1));
        checks.due("letter 2", 0, () -> x.letters(2));
        x.use(2, 4);
        checks.due("letter 2 then", 4, () -> x.letters(2));
        for (int wrong : new int[] {-1, 3, 5, Integer.MIN_VALUE, Integer.MAX_VALUE}) {
            checks.dueThrow("letters(" + wrong + ")", ARGUMENT, () -> x.letters(wrong));
        }
        LetterCounts y = new LetterCounts();
        for (int k = 0; k < 10; k++) {
            y.rule(0, 7, 7, 7, 7);
            y.use(k, 50);
        }
        checks.due("as many as can be", 2000, () -> y.letters(2));
    }
}
