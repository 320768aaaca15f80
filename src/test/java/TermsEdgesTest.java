import java.util.NoSuchElementException;

/** Each sentence of the document's head and of its Terms that names a boundary case has its own test here. */
public final class TermsEdgesTest {
    private static final Class<IllegalArgumentException> ARGUMENT = IllegalArgumentException.class;
    private static final Class<IndexOutOfBoundsException> INDEX = IndexOutOfBoundsException.class;
    private static final int CALLS = 512;
    private static final int PLACES = 4;

    private final Checks checks = new Checks();

    public static void main(String[] args) {
        TermsEdgesTest test = new TermsEdgesTest();
        test.symbolsAndRules();
        test.countsAndHeights();
        test.theTree();
        test.usesThatFit();
        test.checks.end();
    }

    private void symbolsAndRules() {
        checks.sentence("An object is used for at most 512 calls after it has been made", this::calls);
        checks.sentence("NONTERMINALS are 0 .. 4", this::nonterminals);
        checks.sentence("LETTERS 0, 1, 2", this::letters);
        checks.sentence("a right side of up to four SYMBOLS", this::rightSides);
        checks.sentence("0 .. 4 nonterminals", this::nonterminalSymbols);
        checks.sentence("5, 6, 7 the letters 0, 1, 2", this::letterSymbols);
        checks.sentence("There are at most ten rules", this::mostRules);
        checks.sentence("numbered from 0", this::numbersOfRules);
        checks.sentence("NONE = -1: There is none", this::none);
    }

    private void countsAndHeights() {
        checks.sentence("A COUNT is three numbers 0 .. 7", this::counts);
        checks.sentence("its count is that of all letters of its rules together", this::countOfATree);
        checks.sentence("only trees with counts up to 7 are looked at: one letter", this::upToSeven);
        checks.sentence("only trees with counts up to 7 are looked at: beside others", this::upToSevenBeside);
        checks.sentence("HEIGHT is 1 for a rule without nonterminals", this::heightOne);
        checks.sentence("otherwise 1 more than the greatest height below", this::greatestBelow);
        checks.sentence("the greatest height that there is", this::greatestOfAll);
        checks.sentence("A nonterminal HAS a count if there is a tree with it", this::endless);
        checks.sentence("the height of the two is the least one of such trees", this::leastHeight);
    }

    private void theTree() {
        checks.sentence("with the least rule that can be at its root: of like ones", this::leastRule);
        checks.sentence("with the least rule that can be at its root: the last one", this::lastRule);
        checks.sentence("of least height h, with the least rule", this::heightBeforeRule);
        checks.sentence("the first possible ones", this::firstPossible);
        checks.sentence("counts are in the order of the numbers a + 8 b + 64 c", this::orderOfCounts);
        checks.sentence("from left to right", this::leftToRight);
        checks.sentence("those that together make up the count: all in the first", this::allInTheFirst);
        checks.sentence("those that together make up the count: no borrowing", this::noBorrowing);
        checks.sentence("of which all have a height below h: the first", this::firstBelowHeight);
        checks.sentence("of which all have a height below h: those behind", this::restBelowHeight);
        checks.sentence("the root's first, then those of the trees below", this::orderOfSteps);
    }

    private void usesThatFit() {
        checks.sentence("USES are numbers 0 .. 50", this::uses);
        checks.sentence("one for each rule", this::usesOfEachRule);
        checks.sentence("the uses are as many as it stands in the right sides", this::asManyAsAsked);
        checks.sentence("of all uses", this::standsOften);
        checks.sentence("and one more for S", this::oneMoreForS);
        checks.sentence("left side of a rule in use: 0 is not in use, 1 is", this::inUse);
        checks.sentence("can be reached from S: S itself", this::startIsReached);
        checks.sentence("can be reached from S: the longest way", this::longestWay);
        checks.sentence("by rules in use: not by others", this::waysNotInUse);
    }

    private void calls() {
        LetterCounts x = new LetterCounts();
        for (int call = 1; call + 7 <= CALLS; call += 7) {
            x.clear();
            Rules.add(x, Rules.r(0, 0, 5), Rules.r(0, 0, 6), Rules.r(0, 0, 7), Rules.r(0));
            checks.due("call " + (call + 5), 22, () -> x.derive(0, 7, 7, 7));
            checks.due("call " + (call + 6), 3, () -> x.step(21));
        }
        // 73 times seven calls are behind it.
        checks.due("call 512", 22, () -> x.height(0, 7, 7, 7));
    }

    private void nonterminals() {
        LetterCounts x = Rules.of(Rules.r(0, 5), Rules.r(4, 6, 6));
        checks.due("the least: height", 1, () -> x.height(0, 1, 0, 0));
        checks.due("the least: many", 1, () -> x.many(0));
        checks.due("the least: count", 1, () -> x.count(0, 0));
        checks.due("the least: derive", 1, () -> x.derive(0, 1, 0, 0));
        checks.due("the least: fit", 0, () -> x.fit(0));
        checks.due("the greatest: height", 1, () -> x.height(4, 0, 2, 0));
        checks.due("the greatest: many", 1, () -> x.many(4));
        checks.due("the greatest: count", 16, () -> x.count(4, 0));
        checks.due("the greatest: derive", 1, () -> x.derive(4, 0, 2, 0));
        checks.due("the greatest: fit", 0, () -> x.fit(4));
        for (int n = 1; n < 4; n++) {
            int between = n;
            checks.due("between: many(" + n + ")", 0, () -> x.many(between));
            checks.due("between: fit(" + n + ")", 1 + n, () -> x.fit(between));
        }
        for (int wrong : new int[] {-1, 5}) {
            checks.dueThrow("rule of " + wrong, ARGUMENT, () -> x.rule(wrong, 5, -1, -1, -1));
            checks.dueThrow("height of " + wrong, ARGUMENT, () -> x.height(wrong, 1, 0, 0));
            checks.dueThrow("many of " + wrong, ARGUMENT, () -> x.many(wrong));
            checks.dueThrow("count of " + wrong, ARGUMENT, () -> x.count(wrong, 0));
            checks.dueThrow("derive of " + wrong, ARGUMENT, () -> x.derive(wrong, 1, 0, 0));
            checks.dueThrow("fit of " + wrong, ARGUMENT, () -> x.fit(wrong));
        }
    }

    private void letters() {
        LetterCounts x = Rules.of(Rules.r(0, 5, 6, 6), Rules.r(0, 7, 7, 7));
        x.use(0, 1);
        x.use(1, 1);
        checks.dueThrow("below the least", ARGUMENT, () -> x.letters(-1));
        checks.due("the least", 1, () -> x.letters(0));
        checks.due("between", 2, () -> x.letters(1));
        checks.due("the greatest", 3, () -> x.letters(2));
        checks.dueThrow("above the greatest", ARGUMENT, () -> x.letters(3));
    }

    private void rightSides() {
        LetterCounts x = Rules.of(Rules.r(0), Rules.r(1, 5, 5, 5, 5), Rules.r(2, 1, 0, 0, 3), Rules.r(3, 6));
        checks.due("no symbols make the empty word", 1, () -> x.height(0, 0, 0, 0));
        checks.due("no symbols make no other", 1, () -> x.many(0));
        checks.due("four letters", 1, () -> x.height(1, 4, 0, 0));
        checks.due("four nonterminals", 5, () -> x.derive(2, 4, 1, 0));
        checks.dueSteps("four nonterminals", x, 2, 1, 0, 0, 3);
        for (int size = 0; size <= PLACES; size++) {
            LetterCounts y = new LetterCounts();
            y.rule(4, size > 0 ? 7 : -1, size > 1 ? 7 : -1, size > 2 ? 7 : -1, size > 3 ? 7 : -1);
            int many = size;
            checks.due(size + " symbols", 64L * size, () -> y.count(4, 0));
            checks.due(size + " symbols: uses", 0, () -> y.use(0, 1));
            checks.due(size + " symbols: letters", many, () -> y.letters(2));
        }
    }

    private void nonterminalSymbols() {
        for (int n = 0; n <= 4; n++) {
            int other = n == 0 ? 4 : 0;
            LetterCounts x = Rules.of(Rules.r(other, n), Rules.r(n));
            checks.due(n + " asks for a tree below", 2, () -> x.height(other, 0, 0, 0));
            x.use(0, 1);
            checks.due(n + " is no letter", 0, () -> x.letters(0) + x.letters(1) + x.letters(2));
            checks.due(n + " stands once", 1 + n, () -> x.fit(other));
        }
    }

    private void letterSymbols() {
        int[] counts = {1, 8, 64};
        for (int letter = 0; letter < 3; letter++) {
            LetterCounts x = Rules.of(Rules.r(0, 5 + letter));
            checks.due("symbol " + (5 + letter), counts[letter], () -> x.count(0, 0));
            x.use(0, 1);
            for (int other = 0; other < 3; other++) {
                int asked = other;
                checks.due("letters(" + other + ")", other == letter ? 1 : 0, () -> x.letters(asked));
            }
            checks.due("it asks for no tree", 0, () -> x.fit(0));
        }
    }

    private void mostRules() {
        LetterCounts x = new LetterCounts();
        for (int k = 0; k < 10; k++) {
            int n = k % 5;
            checks.due("rule " + k, k, () -> x.rule(n, 5, -1, -1, -1));
        }
        checks.dueThrow("an eleventh", IllegalStateException.class, () -> x.rule(0, 6, -1, -1, -1));
        checks.dueThrow("a twelfth", IllegalStateException.class, () -> x.rule(0, 6, -1, -1, -1));
        checks.due("it is not there", 1, () -> x.many(0));
        checks.dueThrow("it has no uses", ARGUMENT, () -> x.use(10, 0));
    }

    private void numbersOfRules() {
        LetterCounts x = new LetterCounts();
        checks.due("the first", 0, () -> x.rule(0, 5, -1, -1, -1));
        checks.due("the second", 1, () -> x.rule(0, 6, -1, -1, -1));
        checks.due("the first has uses", 0, () -> x.use(0, 1));
        checks.due("the second has uses", 0, () -> x.use(1, 1));
        checks.dueThrow("the third is not there", ARGUMENT, () -> x.use(2, 1));
        x.derive(0, 1, 0, 0);
        checks.due("the first is a step", 0, () -> x.step(0));
        x.derive(0, 0, 1, 0);
        checks.due("the second is a step", 1, () -> x.step(0));
    }

    private void none() {
        checks.due("NONE", -1, () -> LetterCounts.NONE);
        LetterCounts x = new LetterCounts();
        checks.due("no height", LetterCounts.NONE, () -> x.height(0, 0, 0, 0));
        x.rule(0, LetterCounts.NONE, LetterCounts.NONE, LetterCounts.NONE, LetterCounts.NONE);
        checks.due("no symbols", 0, () -> x.count(0, 0));
    }

    private void counts() {
        LetterCounts x = Rules.of(Rules.r(0), Rules.r(0, 0, 5), Rules.r(0, 0, 6), Rules.r(0, 0, 7));
        checks.due("none of each", 1, () -> x.height(0, 0, 0, 0));
        checks.due("seven of each", 22, () -> x.height(0, 7, 7, 7));
        checks.due("the first", 0, () -> x.count(0, 0));
        checks.due("the last", 511, () -> x.count(0, 511));
        for (int letter = 0; letter < 3; letter++) {
            for (int number = -1; number <= 8; number++) {
                int a = letter == 0 ? number : 0;
                int b = letter == 1 ? number : 0;
                int c = letter == 2 ? number : 0;
                String what = number + " of letter " + letter;
                if (number < 0 || number > 7) {
                    checks.dueThrow(what, ARGUMENT, () -> x.height(0, a, b, c));
                    checks.dueThrow(what + ", derive", ARGUMENT, () -> x.derive(0, a, b, c));
                } else {
                    checks.due(what, 1 + number, () -> x.height(0, a, b, c));
                    checks.due(what + ", derive", 1 + number, () -> x.derive(0, a, b, c));
                }
            }
        }
    }

    private void countOfATree() {
        LetterCounts x = Rules.of(Rules.r(0, 1, 5, 2, 7), Rules.r(1, 6, 3, 6), Rules.r(2), Rules.r(3, 5, 7));
        checks.due("letters at the root, between and below", 3, () -> x.height(0, 2, 2, 2));
        checks.due("and no other count", 1, () -> x.many(0));
        LetterCounts y = Rules.of(Rules.r(0, 1, 1), Rules.r(1));
        checks.due("no letters at all", 2, () -> y.height(0, 0, 0, 0));
        checks.due("no letters at all, and no other count", 1, () -> y.many(0));
    }

    /** Eight of a letter are too many, and must not turn into another count by carrying over. */
    private void upToSeven() {
        for (int s = 5; s <= 7; s++) {
            LetterCounts x = Rules.of(Rules.r(0, s, s, s, s), Rules.r(1, s, s, s), Rules.r(2, 0, 1),
                    Rules.r(3, 0, 0), Rules.r(4, 2, s), Rules.r(4, 3));
            int one = s == 5 ? 1 : s == 6 ? 8 : 64;
            checks.due("seven of symbol " + s, 1, () -> x.many(2));
            checks.due("seven of symbol " + s + ": which", 7L * one, () -> x.count(2, 0));
            checks.due("eight of symbol " + s + " from trees", 0, () -> x.many(3));
            checks.due("eight of symbol " + s + " from a tree and a letter", 0, () -> x.many(4));
            checks.dueThrow("no tree", NoSuchElementException.class, () -> x.derive(3, 0, 0, 0));
        }
    }

    private void upToSevenBeside() {
        LetterCounts x = Rules.of(Rules.r(0, 5, 5, 5, 5), Rules.r(1, 0, 6, 7), Rules.r(2, 1, 1), Rules.r(2, 1, 5),
                Rules.r(3, 3, 5), Rules.r(3), Rules.r(4, 3, 3));
        checks.due("eight of one letter with few of others", 1, () -> x.many(2));
        checks.due("five of it", 5 + 8 + 64, () -> x.count(2, 0));
        checks.due("none to seven", 8, () -> x.many(3));
        checks.due("two of none to seven", 8, () -> x.many(4));
        checks.due("two of none to seven: the last", 7, () -> x.count(4, 7));
    }

    private void heightOne() {
        LetterCounts x = Rules.of(Rules.r(0), Rules.r(1, 5), Rules.r(2, 5, 6, 7, 7), Rules.r(3, -1, -1, -1, 7));
        checks.due("no symbols", 1, () -> x.height(0, 0, 0, 0));
        checks.due("one letter", 1, () -> x.height(1, 1, 0, 0));
        checks.due("four letters", 1, () -> x.height(2, 1, 1, 2));
        checks.due("a letter at the last place", 1, () -> x.height(3, 0, 0, 1));
    }

    private void greatestBelow() {
        for (int place = 1; place <= PLACES; place++) {
            int[] root = {0, 1, 1, 1, 1};
            root[place] = 2;
            LetterCounts x = Rules.of(root, Rules.r(1), Rules.r(2, 3), Rules.r(3, 5), Rules.r(4, 0));
            checks.due("the greatest at place " + place, 3, () -> x.height(0, 1, 0, 0));
            checks.due("and one more above", 4, () -> x.height(4, 1, 0, 0));
        }
        LetterCounts y = Rules.of(Rules.r(0, 1), Rules.r(1));
        checks.due("one nonterminal", 2, () -> y.height(0, 0, 0, 0));
        LetterCounts z = Rules.of(Rules.r(0, 5, 5, 5, 1), Rules.r(1));
        checks.due("one nonterminal among letters", 2, () -> z.height(0, 3, 0, 0));
    }

    /** A ring of all five nonterminals for each letter more. */
    private void greatestOfAll() {
        LetterCounts x = Rules.of(Rules.r(0, 1), Rules.r(1, 2), Rules.r(2, 3), Rules.r(3, 4), Rules.r(4, 0, 5),
                Rules.r(4, 0, 6), Rules.r(4, 0, 7), Rules.r(4));
        checks.due("the least count", 5, () -> x.height(0, 0, 0, 0));
        checks.due("the greatest count", 110, () -> x.height(0, 7, 7, 7));
        checks.due("all its steps", 110, () -> x.derive(0, 7, 7, 7));
        checks.due("its last step", 7, () -> x.step(109));
        checks.dueThrow("no step behind it", INDEX, () -> x.step(110));
    }

    private void endless() {
        LetterCounts x = Rules.of(Rules.r(0, 0), Rules.r(1, 2), Rules.r(2, 1, 5), Rules.r(3, 4, 5), Rules.r(3, 0));
        for (int n = 0; n < 5; n++) {
            int asked = n;
            checks.due("no end: many(" + n + ")", 0, () -> x.many(asked));
            checks.due("no end: height(" + n + ")", -1, () -> x.height(asked, 0, 0, 0));
            checks.dueThrow("no end: derive(" + n + ")", NoSuchElementException.class,
                    () -> x.derive(asked, 1, 0, 0));
        }
        x.rule(4, -1, -1, -1, -1);
        checks.due("an end for one of them", 1, () -> x.many(3));
        checks.due("none for the others", 0, () -> x.many(0) + x.many(1) + x.many(2));
    }

    private void leastHeight() {
        LetterCounts x = Rules.of(Rules.r(0, 1), Rules.r(1, 2), Rules.r(2, 5), Rules.r(0, 2), Rules.r(3, 5),
                Rules.r(3, 2), Rules.r(4, 2), Rules.r(4, 5));
        checks.due("a higher one comes first", 2, () -> x.height(0, 1, 0, 0));
        checks.due("a higher one comes last", 1, () -> x.height(3, 1, 0, 0));
        checks.due("a higher one comes just before", 1, () -> x.height(4, 1, 0, 0));
        x.rule(0, 5, -1, -1, -1);
        checks.due("a less high one comes later on", 1, () -> x.height(0, 1, 0, 0));
    }

    private void leastRule() {
        LetterCounts x = new LetterCounts();
        for (int k = 0; k < 10; k++) {
            x.rule(k == 0 ? 1 : 0, 5, -1, -1, -1);
        }
        checks.due("nine like ones", 1, () -> x.derive(0, 1, 0, 0));
        checks.dueSteps("nine like ones", x, 1);
        LetterCounts y = Rules.of(Rules.r(1, 5), Rules.r(2, 5), Rules.r(0, 2), Rules.r(0, 1));
        checks.due("of two with trees below", 2, () -> y.derive(0, 1, 0, 0));
        checks.dueSteps("of two with trees below", y, 2, 1);
    }

    private void lastRule() {
        LetterCounts x = new LetterCounts();
        for (int k = 0; k < 9; k++) {
            x.rule(0, 6, k % 2 == 0 ? 6 : -1, -1, -1);
        }
        x.rule(0, 5, -1, -1, -1);
        checks.due("only the tenth can", 1, () -> x.derive(0, 1, 0, 0));
        checks.dueSteps("only the tenth can", x, 9);
        checks.due("its uses", 1, () -> x.use(9, 0));
    }

    private void heightBeforeRule() {
        LetterCounts x = Rules.of(Rules.r(0, 1), Rules.r(1, 5), Rules.r(0, 5), Rules.r(2, 0), Rules.r(2, 3),
                Rules.r(3, 1));
        checks.due("the least rule is too high", 1, () -> x.derive(0, 1, 0, 0));
        checks.dueSteps("the least rule is too high", x, 2);
        checks.due("it is not needed below", 2, () -> x.derive(2, 1, 0, 0));
        checks.dueSteps("it is not needed below", x, 3, 2);
    }

    private void firstPossible() {
        LetterCounts x = Rules.of(Rules.r(0, 1, 1), Rules.r(1, 5, 5), Rules.r(1, 5), Rules.r(1));
        checks.due("none and two, not one and one", 3, () -> x.derive(0, 2, 0, 0));
        checks.dueSteps("none and two, not one and one", x, 0, 3, 1);
        checks.due("one and two, not two and one", 3, () -> x.derive(0, 3, 0, 0));
        checks.dueSteps("one and two, not two and one", x, 0, 2, 1);
        checks.due("two and two", 3, () -> x.derive(0, 4, 0, 0));
        checks.dueSteps("two and two", x, 0, 1, 1);
        checks.due("none and none", 3, () -> x.derive(0, 0, 0, 0));
        checks.dueSteps("none and none", x, 0, 3, 3);
    }

    /** Seven of a letter come before one of the next one. */
    private void orderOfCounts() {
        for (int letter = 0; letter < 2; letter++) {
            int s = 5 + letter;
            LetterCounts x = Rules.of(Rules.r(0, 1, 1), Rules.r(1, s + 1), Rules.r(1, 2, s, s, s),
                    Rules.r(2, s, s, s, s), Rules.r(3, 4, 4), Rules.r(4, s + 1), Rules.r(4, s));
            int a = letter == 0 ? 7 : 0;
            int b = letter == 0 ? 1 : 7;
            int c = letter == 0 ? 0 : 1;
            checks.due("seven before one of the next", 4, () -> x.derive(0, a, b, c));
            checks.dueSteps("seven before one of the next", x, 0, 2, 3, 1);
            checks.due("one before one of the next", 3, () -> x.derive(3, a / 7, b == 7 ? 1 : b, c));
            checks.dueSteps("one before one of the next", x, 4, 6, 5);
        }
        LetterCounts y = Rules.of(Rules.r(0, 1, 1), Rules.r(1, 7), Rules.r(1, 5));
        checks.due("letter 0 before letter 2", 3, () -> y.derive(0, 1, 0, 1));
        checks.dueSteps("letter 0 before letter 2", y, 0, 2, 1);
    }

    private void leftToRight() {
        LetterCounts x = Rules.of(Rules.r(0, 1, 1, 1, 1), Rules.r(1), Rules.r(1, 5), Rules.r(1, 5, 5));
        checks.due("one in the last", 5, () -> x.derive(0, 1, 0, 0));
        checks.dueSteps("one in the last", x, 0, 1, 1, 1, 2);
        checks.due("three in the last two", 5, () -> x.derive(0, 3, 0, 0));
        checks.dueSteps("three in the last two", x, 0, 1, 1, 2, 3);
        checks.due("seven in all", 5, () -> x.derive(0, 7, 0, 0));
        checks.dueSteps("seven in all", x, 0, 2, 3, 3, 3);
    }

    /** The last count that can stand first is the whole one. */
    private void allInTheFirst() {
        LetterCounts x = Rules.of(Rules.r(0, 1, 2, 2, 2), Rules.r(1), Rules.r(1, 5), Rules.r(1, 1, 6),
                Rules.r(1, 1, 7), Rules.r(2));
        checks.due("one", 5, () -> x.derive(0, 1, 0, 0));
        checks.dueSteps("one", x, 0, 2, 5, 5, 5);
        checks.due("all", 19, () -> x.derive(0, 1, 7, 7));
        checks.due("all: the root", 0, () -> x.step(0));
        checks.due("all: the last behind the first", 2, () -> x.step(15));
        checks.due("none", 5, () -> x.derive(0, 0, 0, 0));
        checks.dueSteps("none", x, 0, 1, 5, 5, 5);
    }

    /** What is left of one letter can't make up for too many of another, though the numbers would. */
    private void noBorrowing() {
        for (int letter = 0; letter < 2; letter++) {
            int s = 5 + letter;
            LetterCounts x = Rules.of(Rules.r(0, 1, 2), Rules.r(1, s), Rules.r(1, 4), Rules.r(4, s + 1), Rules.r(2),
                    Rules.r(2, 3, s, s, s), Rules.r(3, s, s, s, s));
            int b = 1 - letter;
            int c = letter;
            checks.due("one of letter " + (letter + 1), 4, () -> x.derive(0, 0, b, c));
            checks.dueSteps("one of letter " + (letter + 1), x, 0, 2, 3, 4);
        }
    }

    private void firstBelowHeight() {
        LetterCounts x = Rules.of(Rules.r(0, 1, 1), Rules.r(1, 2), Rules.r(2), Rules.r(1, 5), Rules.r(1, 5, 5),
                Rules.r(3, 1, 4), Rules.r(4, 1));
        checks.due("none has height 2", 2, () -> x.height(1, 0, 0, 0));
        checks.due("a height of 2", 2, () -> x.height(0, 2, 0, 0));
        checks.due("none is as high: not possible", 3, () -> x.derive(0, 2, 0, 0));
        checks.dueSteps("none is as high: not possible", x, 0, 3, 3);
        checks.due("a height of 3", 3, () -> x.height(0, 1, 0, 0));
        checks.due("none is just below: possible", 4, () -> x.derive(0, 1, 0, 0));
        checks.dueSteps("none is just below: possible", x, 0, 1, 2, 3);
        checks.due("a height of 3 by the second", 3, () -> x.height(3, 2, 0, 0));
        checks.due("none is just below, as the second is", 5, () -> x.derive(3, 2, 0, 0));
        checks.dueSteps("none is just below, as the second is", x, 5, 1, 2, 6, 4);
    }

    private void restBelowHeight() {
        LetterCounts x = Rules.of(Rules.r(0, 1, 2), Rules.r(1), Rules.r(1, 5), Rules.r(2, 5), Rules.r(2, 3),
                Rules.r(3, 5, 5), Rules.r(4, 1, 2, 2));
        checks.due("two have height 2", 2, () -> x.height(2, 2, 0, 0));
        checks.due("two in the second are as high: not possible", 3, () -> x.derive(0, 2, 0, 0));
        checks.dueSteps("two in the second are as high: not possible", x, 0, 2, 3);
        checks.due("two in the second are just below: possible", 4, () -> x.derive(0, 3, 0, 0));
        checks.dueSteps("two in the second are just below: possible", x, 0, 2, 4, 5);
        checks.due("two in the third are as high: not possible", 4, () -> x.derive(4, 3, 0, 0));
        checks.dueSteps("two in the third are as high: not possible", x, 6, 2, 3, 3);
        checks.due("two in the third are just below: possible", 6, () -> x.derive(4, 4, 0, 0));
        checks.dueSteps("two in the third are just below: possible", x, 6, 1, 4, 5, 4, 5);
        checks.due("three trees", 4, () -> x.derive(4, 2, 0, 0));
        checks.dueSteps("three trees", x, 6, 1, 3, 3);
    }

    private void orderOfSteps() {
        LetterCounts x = Rules.of(Rules.r(0, 1, 2, 3), Rules.r(1, 2, 5), Rules.r(2, 6), Rules.r(3, 2, 2));
        checks.due("a root alone", 1, () -> x.derive(2, 0, 1, 0));
        checks.dueSteps("a root alone", x, 2);
        checks.due("three trees below", 7, () -> x.derive(0, 1, 4, 0));
        checks.dueSteps("three trees below", x, 0, 1, 2, 2, 3, 2, 2);
    }

    private void uses() {
        LetterCounts x = Rules.of(Rules.r(0, 5));
        checks.due("the greatest", 0, () -> x.use(0, 50));
        checks.due("the greatest is kept", 50, () -> x.letters(0));
        checks.due("the least", 50, () -> x.use(0, 0));
        checks.due("the least is kept", 0, () -> x.letters(0));
        checks.dueThrow("above the greatest", ARGUMENT, () -> x.use(0, 51));
        checks.dueThrow("below the least", ARGUMENT, () -> x.use(0, -1));
        checks.due("nothing of those is kept", 0, () -> x.letters(0));
    }

    private void usesOfEachRule() {
        LetterCounts x = new LetterCounts();
        for (int k = 0; k < 10; k++) {
            x.rule(0, 5, -1, -1, -1);
        }
        for (int k = 0; k < 10; k++) {
            int rule = k;
            checks.due("at first, rule " + k, 0, () -> x.use(rule, 41 + rule));
        }
        for (int k = 0; k < 10; k++) {
            int rule = k;
            checks.due("then, rule " + k, 41 + k, () -> x.use(rule, 41 + rule));
        }
    }

    private void asManyAsAsked() {
        LetterCounts x = Rules.of(Rules.r(0, 1, 1, 1), Rules.r(1, 5));
        x.use(0, 1);
        x.use(1, 2);
        checks.due("one too few", 2, () -> x.fit(0));
        x.use(1, 3);
        checks.due("just as many", 0, () -> x.fit(0));
        x.use(1, 4);
        checks.due("one too many", 2, () -> x.fit(0));
        x.use(1, 0);
        checks.due("none", 2, () -> x.fit(0));
    }

    /** The greatest numbers that the sums can have, and a nonterminal four times in a right side. */
    private void standsOften() {
        LetterCounts x = Rules.of(Rules.r(0, 0, 1, 1, 0), Rules.r(0, 1, 1), Rules.r(1, 5), Rules.r(1, 6));
        x.use(0, 49);
        x.use(1, 50);
        x.use(2, 50);
        x.use(3, 50);
        checks.due("198 are asked for, 100 are there", 2, () -> x.fit(0));
        x.use(0, 24);
        x.use(1, 25);
        x.use(3, 48);
        checks.due("98 are asked for, 98 are there", 0, () -> x.fit(0));
        LetterCounts y = new LetterCounts();
        for (int k = 0; k < 10; k++) {
            y.rule(k < 2 ? 3 : 4, k < 2 ? 4 : -1, k < 2 ? 4 : 5, k < 2 ? 4 : -1, k < 2 ? 4 : -1);
            y.use(k, 50);
        }
        checks.due("400 are asked for, 400 are there, but not so of the start", 4, () -> y.fit(3));
        checks.due("one more than 400 is asked for", 4, () -> y.fit(4));
        y.use(0, 1);
        y.use(1, 0);
        for (int k = 2; k < 10; k++) {
            y.use(k, k < 6 ? 1 : 0);
        }
        checks.due("four by four rules", 0, () -> y.fit(3));
        LetterCounts z = Rules.of(Rules.r(0, 0, 0, 0, 0), Rules.r(0, 5), Rules.r(0, 6), Rules.r(0, 7), Rules.r(0));
        z.use(0, 50);
        z.use(1, 50);
        z.use(2, 50);
        z.use(3, 50);
        checks.due("201 are asked for, 200 are there", 1, () -> z.fit(0));
        z.use(4, 1);
        checks.due("201 are asked for, 201 are there", 0, () -> z.fit(0));
        z.use(4, 2);
        checks.due("201 are asked for, 202 are there", 1, () -> z.fit(0));
    }

    private void oneMoreForS() {
        LetterCounts x = Rules.of(Rules.r(2, 5), Rules.r(3, 2));
        checks.due("the start is not used", 3, () -> x.fit(2));
        x.use(0, 1);
        checks.due("the start is used once", 0, () -> x.fit(2));
        checks.due("there is one too many for another start", 3, () -> x.fit(3));
        x.use(0, 2);
        checks.due("the start is used twice", 3, () -> x.fit(2));
        x.use(1, 1);
        checks.due("the start stands below another, too", 4, () -> x.fit(2));
        x.use(0, 1);
        checks.due("from the other", 0, () -> x.fit(3));
    }

    private void inUse() {
        LetterCounts x = Rules.of(Rules.r(0, 5), Rules.r(1, 1), Rules.r(2, 2), Rules.r(2, 2));
        x.use(0, 1);
        checks.due("0 uses", 0, () -> x.fit(0));
        x.use(1, 1);
        checks.due("1 use", 12, () -> x.fit(0));
        x.use(1, 0);
        checks.due("0 uses again", 0, () -> x.fit(0));
        x.use(3, 1);
        checks.due("1 use of the later of two", 13, () -> x.fit(0));
    }

    private void startIsReached() {
        for (int n = 0; n < 5; n++) {
            LetterCounts x = Rules.of(Rules.r(n));
            x.use(0, 1);
            int start = n;
            checks.due("no way is needed from " + n, 0, () -> x.fit(start));
        }
    }

    /** Whatever the order of the rules on it is. */
    private void longestWay() {
        LetterCounts x = Rules.of(Rules.r(4, 3), Rules.r(3, 2), Rules.r(2, 1), Rules.r(1, 0), Rules.r(0, 5));
        LetterCounts y = Rules.of(Rules.r(0, 5), Rules.r(1, 0), Rules.r(2, 1), Rules.r(3, 2), Rules.r(4, 3));
        LetterCounts z = Rules.of(Rules.r(4, 5), Rules.r(3, 4), Rules.r(2, 3), Rules.r(1, 2), Rules.r(0, 1));
        for (int k = 0; k < 5; k++) {
            x.use(k, 1);
            y.use(k, 1);
            z.use(k, 1);
        }
        checks.due("rules along it", 0, () -> x.fit(4));
        checks.due("rules against it", 0, () -> y.fit(4));
        checks.due("the other way", 0, () -> z.fit(0));
    }

    private void waysNotInUse() {
        LetterCounts x = Rules.of(Rules.r(0, 5), Rules.r(0, 1), Rules.r(1, 1), Rules.r(1, 5));
        x.use(0, 1);
        x.use(2, 1);
        checks.due("the only way is not in use", 12, () -> x.fit(0));
        x.use(0, 0);
        x.use(1, 1);
        x.use(3, 1);
        checks.due("the way is in use", 0, () -> x.fit(0));
    }
}
