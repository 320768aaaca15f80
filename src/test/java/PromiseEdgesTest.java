import java.util.NoSuchElementException;

/** Each sentence of the promises 1 to 11 that names a boundary case has its own test here. */
public final class PromiseEdgesTest {
    private static final Class<IllegalArgumentException> ARGUMENT = IllegalArgumentException.class;
    private static final Class<IllegalStateException> STATE = IllegalStateException.class;
    private static final Class<IndexOutOfBoundsException> INDEX = IndexOutOfBoundsException.class;
    private static final Class<NoSuchElementException> NO_ELEMENT = NoSuchElementException.class;
    private static final Class<UnsupportedOperationException> UNSUPPORTED = UnsupportedOperationException.class;
    private static final int MOST_RULES = 10;

    private final Checks checks = new Checks();

    public static void main(String[] args) {
        PromiseEdgesTest test = new PromiseEdgesTest();
        test.promises1To3();
        test.promises4To6();
        test.promises7And8();
        test.promises9To11();
        test.checks.end();
    }

    private void promises1To3() {
        checks.sentence("1: No rules", this::newObject);
        checks.sentence("2: One more rule: its number", this::ruleNumbers);
        checks.sentence("2: -1 stands for none at its place", this::ruleNonePlaces);
        checks.sentence("2: IllegalArgumentException if left is no nonterminal", this::ruleWrongLeft);
        checks.sentence("2: or a symbol not -1 .. 7", this::ruleWrongSymbols);
        checks.sentence("2: IllegalStateException if there are ten", this::ruleTen);
        checks.sentence("2: what is wrong comes before what is full", this::ruleWrongAndTen);
        checks.sentence("2: Uses of it are 0", this::ruleUses);
        checks.sentence("3: All rules go: there are none", this::clearNone);
        checks.sentence("3: All rules go: there are ten", this::clearTen);
        checks.sentence("3: All rules go: nothing of them is left", this::clearLeavesNothing);
    }

    private void promises4To6() {
        checks.sentence("4: NONE if it hasn't it", this::heightNone);
        checks.sentence("4: IllegalArgumentException if there is no such nonterminal", this::heightWrongNonterminal);
        checks.sentence("4: or a number is not 0 .. 7", this::heightWrongNumbers);
        checks.sentence("5: How many counts a nonterminal has: none, one, all", this::manyNoneToAll);
        checks.sentence("5: IllegalArgumentException if there is none such", this::manyWrongNonterminal);
        checks.sentence("6: The k-th count, from 0 on", this::countFirstToLast);
        checks.sentence("6: IllegalArgumentException if there is no such nonterminal", this::countWrongNonterminal);
        checks.sentence("6: IndexOutOfBoundsException if there is no such count", this::countWrongIndex);
        checks.sentence("6: no such count: there are none at all", this::countOfNone);
        checks.sentence("6: no such count: there are all", this::countBehindAll);
    }

    private void promises7And8() {
        checks.sentence("7: IllegalArgumentException if there is no such nonterminal", this::deriveWrongNonterminal);
        checks.sentence("7: or number", this::deriveWrongNumbers);
        checks.sentence("7: NoSuchElementException if it hasn't the count", this::deriveNotHad);
        checks.sentence("7: UnsupportedOperationException if more than 500 steps", this::deriveManySteps);
        checks.sentence("7: a tree of many steps within the limits", this::deriveLargeTree);
        checks.sentence("7: or more than 50 of one rule", this::deriveManyOfOneRule);
        checks.sentence("7: more than 50 of the first, of the last rule", this::deriveManyOfAnyRule);
        checks.sentence("7: its uses become the uses", this::deriveUses);
        checks.sentence("7: becomes the one that is looked at", this::deriveReplaces);
        checks.sentence("8: IndexOutOfBoundsException if there is none such", this::stepWrongIndex);
        checks.sentence("8: there is no tree at first", this::stepAtFirst);
        checks.sentence("8: and behind rule()", this::stepBehindRule);
        checks.sentence("8: and behind clear()", this::stepBehindClear);
        checks.sentence("8: and behind no other call", this::stepBehindOthers);
    }

    private void promises9To11() {
        checks.sentence("9: become so many: how many there were", this::useLeastToMost);
        checks.sentence("9: IllegalArgumentException if there is no such rule", this::useWrongRule);
        checks.sentence("9: no such rule: there are none, there are ten", this::useNoneAndTen);
        checks.sentence("9: or many is not 0 .. 50", this::useWrongMany);
        checks.sentence("10: 0 they do", this::fitZero);
        checks.sentence("10: too few or too many", this::fitFewOrMany);
        checks.sentence("10: 1 + the least nonterminal", this::fitLeastSum);
        checks.sentence("10: if there is none, 11 +", this::fitSumsBeforeWays);
        checks.sentence("10: 11 + the least one", this::fitLeastWay);
        checks.sentence("10: uses of no rules, no uses", this::fitNothing);
        checks.sentence("10: IllegalArgumentException if there is no such nonterminal", this::fitWrongNonterminal);
        checks.sentence("11: How many of a letter all uses have: none, all", this::lettersNoneToAll);
        checks.sentence("11: IllegalArgumentException if there is no such letter", this::lettersWrongLetter);
    }

    private static LetterCounts allCounts() {
        return Rules.of(Rules.r(0), Rules.r(0, 0, 5), Rules.r(0, 0, 6), Rules.r(0, 0, 7));
    }

    private static LetterCounts full() {
        LetterCounts x = new LetterCounts();
        for (int k = 0; k < MOST_RULES; k++) {
            x.rule(k % 5, 5, -1, -1, -1);
        }
        return x;
    }

    private void dueNoRules(String what, LetterCounts x) {
        for (int n = 0; n < 5; n++) {
            int asked = n;
            checks.due(what + ": many(" + n + ")", 0, () -> x.many(asked));
            checks.due(what + ": height(" + n + ")", -1, () -> x.height(asked, 0, 0, 0));
            checks.dueThrow(what + ": count(" + n + ", 0)", INDEX, () -> x.count(asked, 0));
            checks.dueThrow(what + ": derive(" + n + ")", NO_ELEMENT, () -> x.derive(asked, 0, 0, 0));
            checks.due(what + ": fit(" + n + ")", 1 + n, () -> x.fit(asked));
        }
        for (int letter = 0; letter < 3; letter++) {
            int asked = letter;
            checks.due(what + ": letters(" + letter + ")", 0, () -> x.letters(asked));
        }
        for (int rule = 0; rule < MOST_RULES; rule++) {
            int asked = rule;
            checks.dueThrow(what + ": use(" + rule + ")", ARGUMENT, () -> x.use(asked, 0));
        }
        checks.dueThrow(what + ": step(0)", INDEX, () -> x.step(0));
    }

    private void newObject() {
        LetterCounts x = new LetterCounts();
        dueNoRules("new", x);
        checks.due("the first rule", 0, () -> x.rule(0, -1, -1, -1, -1));
        dueNoRules("another new one", new LetterCounts());
    }

    private void ruleNumbers() {
        LetterCounts x = new LetterCounts();
        for (int k = 0; k < MOST_RULES; k++) {
            int left = k % 5;
            checks.due("rule " + k, k, () -> x.rule(left, 5, -1, -1, -1));
            checks.due("it counts at once", 1, () -> x.many(left));
        }
    }

    /** All ways to leave places empty. */
    private void ruleNonePlaces() {
        for (int places = 0; places < 16; places++) {
            int[] own = {0, -1, -1, -1, -1};
            int[] below = {1, -1, -1, -1, -1};
            for (int place = 0; place < 4; place++) {
                if (((places >> place) & 1) != 0) {
                    own[1 + place] = 6;
                    below[1 + place] = 2;
                }
            }
            LetterCounts x = Rules.of(own, below, Rules.r(2, 7));
            int many = Integer.bitCount(places);
            checks.due("letters at places " + places, 1, () -> x.height(0, 0, many, 0));
            checks.due("letters at places " + places + " only", 1, () -> x.many(0));
            checks.due("nonterminals at places " + places, 1 + many, () -> x.derive(1, 0, 0, many));
        }
    }

    private void ruleWrongLeft() {
        LetterCounts x = new LetterCounts();
        for (int wrong : Rules.NO_NONTERMINALS) {
            checks.dueThrow("left " + wrong, ARGUMENT, () -> x.rule(wrong, -1, -1, -1, -1));
        }
        checks.due("the least", 0, () -> x.rule(0, -1, -1, -1, -1));
        checks.due("the greatest", 1, () -> x.rule(4, -1, -1, -1, -1));
    }

    private void ruleWrongSymbols() {
        LetterCounts x = new LetterCounts();
        for (int wrong : Rules.NO_SYMBOLS) {
            checks.dueThrow("first symbol " + wrong, ARGUMENT, () -> x.rule(0, wrong, 5, 5, 5));
            checks.dueThrow("second symbol " + wrong, ARGUMENT, () -> x.rule(0, 5, wrong, 5, 5));
            checks.dueThrow("third symbol " + wrong, ARGUMENT, () -> x.rule(0, 5, 5, wrong, 5));
            checks.dueThrow("fourth symbol " + wrong, ARGUMENT, () -> x.rule(0, 5, 5, 5, wrong));
        }
        checks.due("the least", 0, () -> x.rule(0, -1, -1, -1, -1));
        checks.due("the greatest", 1, () -> x.rule(0, 7, 7, 7, 7));
    }

    private void ruleTen() {
        LetterCounts x = new LetterCounts();
        for (int k = 0; k < MOST_RULES - 1; k++) {
            x.rule(0, 5, -1, -1, -1);
        }
        checks.due("there are nine", 9, () -> x.rule(1, 6, -1, -1, -1));
        checks.dueThrow("there are ten", STATE, () -> x.rule(2, 7, -1, -1, -1));
        checks.dueThrow("there are still ten", STATE, () -> x.rule(2, -1, -1, -1, -1));
        x.clear();
        checks.due("there are none again", 0, () -> x.rule(2, 7, -1, -1, -1));
    }

    /** The document names the wrong argument first. */
    private void ruleWrongAndTen() {
        LetterCounts x = full();
        checks.dueThrow("left", ARGUMENT, () -> x.rule(5, -1, -1, -1, -1));
        checks.dueThrow("a symbol", ARGUMENT, () -> x.rule(0, -1, -1, -1, 8));
    }

    private void ruleUses() {
        LetterCounts x = Rules.of(Rules.r(0, 5));
        checks.due("a first rule", 0, () -> x.use(0, 50));
        x.rule(0, 6, -1, -1, -1);
        checks.due("a second rule", 0, () -> x.use(1, 7));
        checks.due("the first one's stay", 50, () -> x.use(0, 50));
        x.clear();
        x.rule(0, 6, -1, -1, -1);
        checks.due("no letters by a rule in an old one's place", 0, () -> x.letters(1));
        checks.due("a rule in an old one's place", 0, () -> x.use(0, 0));
        x.derive(0, 0, 1, 0);
        x.rule(0, 7, -1, -1, -1);
        checks.due("a rule behind derive()", 0, () -> x.use(1, 0));
        checks.due("the tree's uses stay", 1, () -> x.use(0, 0));
    }

    private void clearNone() {
        LetterCounts x = new LetterCounts();
        x.clear();
        dueNoRules("clear", x);
        x.clear();
        x.clear();
        checks.due("the first rule", 0, () -> x.rule(0, 5, -1, -1, -1));
        checks.due("its count", 1, () -> x.many(0));
    }

    private void clearTen() {
        LetterCounts x = full();
        x.clear();
        dueNoRules("clear", x);
        for (int k = 0; k < MOST_RULES; k++) {
            int number = k;
            checks.due("rule " + k, k, () -> x.rule(4, -1, -1, -1, -1));
            checks.due("its uses", 0, () -> x.use(number, 0));
        }
        checks.dueThrow("rule 10", STATE, () -> x.rule(4, -1, -1, -1, -1));
    }

    private void clearLeavesNothing() {
        LetterCounts x = Rules.of(Rules.r(0, 0, 0), Rules.r(0, 5), Rules.r(1, 6, 7), Rules.r(2, 0, 1));
        x.derive(2, 3, 1, 1);
        x.clear();
        dueNoRules("clear", x);
        x.rule(2, 0, 1, -1, -1);
        checks.due("what stood below has no rules", 0, () -> x.many(2));
        x.rule(0, 7, -1, -1, -1);
        x.rule(1, -1, -1, -1, -1);
        checks.due("new rules below", 64, () -> x.count(2, 0));
        checks.due("new rules below alone", 1, () -> x.many(2));
        x.clear();
        x.rule(2, 5, -1, -1, -1);
        checks.due("a shorter rule in a longer one's place", 1, () -> x.derive(2, 1, 0, 0));
    }

    private void heightNone() {
        LetterCounts x = Rules.of(Rules.r(0, 5), Rules.r(1, 2));
        checks.due("one less", -1, () -> x.height(0, 0, 0, 0));
        checks.due("just so many", 1, () -> x.height(0, 1, 0, 0));
        checks.due("one more", -1, () -> x.height(0, 2, 0, 0));
        checks.due("another letter too", -1, () -> x.height(0, 1, 1, 0));
        checks.due("another letter instead", -1, () -> x.height(0, 0, 0, 1));
        checks.due("a rule without an end", -1, () -> x.height(1, 0, 0, 0));
        checks.due("no rule", -1, () -> x.height(4, 0, 0, 0));
        checks.due("the greatest count", -1, () -> x.height(0, 7, 7, 7));
    }

    private void heightWrongNonterminal() {
        LetterCounts x = allCounts();
        for (int wrong : Rules.NO_NONTERMINALS) {
            checks.dueThrow("height of " + wrong, ARGUMENT, () -> x.height(wrong, 0, 0, 0));
        }
        checks.due("the least", 1, () -> x.height(0, 0, 0, 0));
        checks.due("the greatest", -1, () -> x.height(4, 0, 0, 0));
    }

    private void heightWrongNumbers() {
        LetterCounts x = allCounts();
        for (int wrong : Rules.NO_NUMBERS) {
            checks.dueThrow("a = " + wrong, ARGUMENT, () -> x.height(0, wrong, 1, 1));
            checks.dueThrow("b = " + wrong, ARGUMENT, () -> x.height(0, 1, wrong, 1));
            checks.dueThrow("c = " + wrong, ARGUMENT, () -> x.height(0, 1, 1, wrong));
            checks.dueThrow("a = " + wrong + ", no rules", ARGUMENT, () -> x.height(4, wrong, 0, 0));
        }
        checks.due("the least", 1, () -> x.height(0, 0, 0, 0));
        checks.due("the greatest", 22, () -> x.height(0, 7, 7, 7));
    }

    private void manyNoneToAll() {
        LetterCounts x = allCounts();
        Rules.add(x, Rules.r(1), Rules.r(2, 5), Rules.r(2, 5), Rules.r(3, 3));
        checks.due("all", 512, () -> x.many(0));
        checks.due("the empty word's alone", 1, () -> x.many(1));
        checks.due("one by two rules", 1, () -> x.many(2));
        checks.due("none, by a rule without an end", 0, () -> x.many(3));
        checks.due("none, without a rule", 0, () -> x.many(4));
    }

    private void manyWrongNonterminal() {
        LetterCounts x = allCounts();
        for (int wrong : Rules.NO_NONTERMINALS) {
            checks.dueThrow("many(" + wrong + ")", ARGUMENT, () -> x.many(wrong));
        }
        checks.due("the least", 512, () -> x.many(0));
        checks.due("the greatest", 0, () -> x.many(4));
    }

    private void countFirstToLast() {
        LetterCounts x = Rules.of(Rules.r(0, 7), Rules.r(0, 6, 6), Rules.r(0, 5, 5, 5), Rules.r(0, 7, 7, 6, 5));
        checks.due("the first", 3, () -> x.count(0, 0));
        checks.due("the second", 16, () -> x.count(0, 1));
        checks.due("the third", 64, () -> x.count(0, 2));
        checks.due("the last", 137, () -> x.count(0, 3));
        LetterCounts y = allCounts();
        for (int k = 0; k < 512; k += 7) {
            int at = k;
            checks.due("count " + k + " of all", k, () -> y.count(0, at));
        }
        for (int k = 56; k <= 72; k++) {
            int at = k;
            checks.due("count " + k + " of all, about a change of letter 2", k, () -> y.count(0, at));
        }
        checks.due("the last of all", 511, () -> y.count(0, 511));
    }

    private void countWrongNonterminal() {
        LetterCounts x = allCounts();
        for (int wrong : Rules.NO_NONTERMINALS) {
            checks.dueThrow("count(" + wrong + ", 0)", ARGUMENT, () -> x.count(wrong, 0));
            checks.dueThrow("count(" + wrong + ", -1)", ARGUMENT, () -> x.count(wrong, -1));
        }
        checks.due("the least", 0, () -> x.count(0, 0));
        checks.dueThrow("the greatest", INDEX, () -> x.count(4, 0));
    }

    private void countWrongIndex() {
        LetterCounts x = Rules.of(Rules.r(0, 5), Rules.r(0, 6));
        checks.dueThrow("far below", INDEX, () -> x.count(0, Integer.MIN_VALUE));
        checks.dueThrow("just below", INDEX, () -> x.count(0, -1));
        checks.due("the first", 1, () -> x.count(0, 0));
        checks.due("the last", 8, () -> x.count(0, 1));
        checks.dueThrow("just behind", INDEX, () -> x.count(0, 2));
        checks.dueThrow("far behind", INDEX, () -> x.count(0, Integer.MAX_VALUE));
    }

    private void countOfNone() {
        LetterCounts x = Rules.of(Rules.r(0, 5), Rules.r(1, 1));
        checks.dueThrow("no rules for it", INDEX, () -> x.count(2, 0));
        checks.dueThrow("a rule without an end", INDEX, () -> x.count(1, 0));
        checks.dueThrow("no rules at all", INDEX, () -> new LetterCounts().count(0, 0));
    }

    private void countBehindAll() {
        LetterCounts x = allCounts();
        checks.due("the last", 511, () -> x.count(0, 511));
        checks.dueThrow("behind the last", INDEX, () -> x.count(0, 512));
        checks.dueThrow("before the first", INDEX, () -> x.count(0, -1));
    }

    private void deriveWrongNonterminal() {
        LetterCounts x = allCounts();
        for (int wrong : Rules.NO_NONTERMINALS) {
            checks.dueThrow("derive of " + wrong, ARGUMENT, () -> x.derive(wrong, 0, 0, 0));
        }
        checks.due("the least", 1, () -> x.derive(0, 0, 0, 0));
        checks.dueThrow("the greatest", NO_ELEMENT, () -> x.derive(4, 0, 0, 0));
    }

    private void deriveWrongNumbers() {
        LetterCounts x = allCounts();
        for (int wrong : Rules.NO_NUMBERS) {
            checks.dueThrow("a = " + wrong, ARGUMENT, () -> x.derive(0, wrong, 1, 1));
            checks.dueThrow("b = " + wrong, ARGUMENT, () -> x.derive(0, 1, wrong, 1));
            checks.dueThrow("c = " + wrong, ARGUMENT, () -> x.derive(0, 1, 1, wrong));
            checks.dueThrow("a = " + wrong + ", no rules", ARGUMENT, () -> x.derive(4, wrong, 0, 0));
        }
        checks.due("the least", 1, () -> x.derive(0, 0, 0, 0));
        checks.due("the greatest", 22, () -> x.derive(0, 7, 7, 7));
    }

    private void deriveNotHad() {
        LetterCounts x = Rules.of(Rules.r(0, 5), Rules.r(1, 1));
        checks.dueThrow("one less", NO_ELEMENT, () -> x.derive(0, 0, 0, 0));
        checks.due("just so many", 1, () -> x.derive(0, 1, 0, 0));
        checks.dueThrow("one more", NO_ELEMENT, () -> x.derive(0, 2, 0, 0));
        checks.dueThrow("another letter too", NO_ELEMENT, () -> x.derive(0, 1, 0, 1));
        checks.dueThrow("a rule without an end", NO_ELEMENT, () -> x.derive(1, 0, 0, 0));
        checks.dueThrow("no rule", NO_ELEMENT, () -> x.derive(4, 0, 0, 0));
        checks.dueThrow("the greatest count", NO_ELEMENT, () -> x.derive(0, 7, 7, 7));
    }

    /** With ten rules, a tree of more than 500 steps has more than 50 of one rule, too. */
    private void deriveManySteps() {
        LetterCounts x = Rules.of(Rules.r(0, 1, 1, 1, 1), Rules.r(1, 2, 2, 2, 2), Rules.r(2, 3, 3, 3, 3),
                Rules.r(3, 4, 4, 4, 4), Rules.r(4), Rules.r(4, 0, 0, 0, 5), Rules.r(4, 0, 6), Rules.r(4, 0, 7));
        checks.due("it is had", 5, () -> x.height(0, 0, 0, 0));
        checks.dueThrow("341 steps, 256 of one rule", UNSUPPORTED, () -> x.derive(0, 0, 0, 0));
        checks.dueThrow("1023 steps more", UNSUPPORTED, () -> x.derive(0, 1, 0, 0));
        checks.due("the greatest count is had", 10, () -> x.height(0, 7, 7, 7));
        checks.dueThrow("thousands of steps", UNSUPPORTED, () -> x.derive(0, 7, 7, 7));
        checks.due("a part of it is small enough", 21, () -> x.derive(2, 0, 0, 0));
        checks.dueThrow("the next part is not", UNSUPPORTED, () -> x.derive(1, 0, 0, 0));
    }

    /** A tree of the most steps that a long search has found within the limits. */
    private void deriveLargeTree() {
        int[][] rules = {
            {0, -1, -1, -1, 1}, {1, -1, -1, 4, 3}, {1, -1, -1, -1, 3}, {3, 5, -1, -1, 4}, {3, 2, -1, -1, -1},
            {3, 4, -1, -1, 7}, {3, 4, 6, -1, 4}, {4, 4, -1, -1, 1}, {2, -1, -1, -1, -1}, {4, -1, -1, -1, 0},
        };
        LetterCounts x = Rules.of(rules);
        PlainModel model = new PlainModel();
        for (int[] rule : rules) {
            model.rule(rule[0], rule[1], rule[2], rule[3], rule[4]);
        }
        checks.due("its steps by the plain model", 313, () -> model.derive(4, 7, 7, 7));
        checks.due("its steps", 313, () -> x.derive(4, 7, 7, 7));
        for (int k = 0; k < 313; k++) {
            int at = k;
            checks.due("step " + k, model.step(k), () -> x.step(at));
        }
        checks.dueThrow("behind the last step", INDEX, () -> x.step(313));
        checks.due("they fit", 0, () -> x.fit(4));
    }

    private void deriveManyOfOneRule() {
        for (int asked = 49; asked <= 52; asked++) {
            // 48 by three trees of 16 each, and some more.
            int[] rest = {2, -1, -1, -1, -1};
            for (int k = 48; k < asked; k++) {
                rest[1 + k - 48] = 4;
            }
            LetterCounts x = Rules.of(Rules.r(0, 1, 1, 1, 2), Rules.r(1, 3, 3, 3, 3), rest, Rules.r(3, 4, 4, 4, 4),
                    Rules.r(4));
            int many = asked;
            checks.due(many + " of one rule are had", 4, () -> x.height(0, 0, 0, 0));
            if (many <= 50) {
                checks.due(many + " of one rule", 17 + many, () -> x.derive(0, 0, 0, 0));
                checks.due(many + " of one rule: its uses", many, () -> x.use(4, many));
                checks.due(many + " of one rule: its last step", 4, () -> x.step(16 + many));
            } else {
                checks.dueThrow(many + " of one rule", UNSUPPORTED, () -> x.derive(0, 0, 0, 0));
            }
        }
    }

    /** The rule of the leaves stands first, or last of ten; and 64 of a rule that is no leaf's. */
    private void deriveManyOfAnyRule() {
        LetterCounts x = Rules.of(Rules.r(4), Rules.r(0, 1, 1, 1, 2), Rules.r(1, 3, 3, 3, 3), Rules.r(2, 4, 4, 4),
                Rules.r(3, 4, 4, 4, 4));
        checks.dueThrow("51 of the first rule", UNSUPPORTED, () -> x.derive(0, 0, 0, 0));
        LetterCounts y = Rules.of(Rules.r(0, 1, 1, 1, 2), Rules.r(1, 3, 3, 3, 3), Rules.r(2, 4, 4, 4),
                Rules.r(3, 4, 4, 4, 4), Rules.r(0, 5), Rules.r(0, 5), Rules.r(0, 5), Rules.r(0, 5), Rules.r(0, 5),
                Rules.r(4));
        checks.dueThrow("51 of the last rule", UNSUPPORTED, () -> y.derive(0, 0, 0, 0));
        LetterCounts z = Rules.of(Rules.r(0, 1, 1, 1, 1), Rules.r(1, 2, 2, 2, 2), Rules.r(2, 3, 3, 3, 3),
                Rules.r(3, 4), Rules.r(4, 5), Rules.r(4));
        checks.dueThrow("64 of a rule above the leaves", UNSUPPORTED, () -> z.derive(0, 7, 0, 0));
        checks.due("16 of it", 37, () -> z.derive(1, 7, 0, 0));
    }

    private void deriveUses() {
        LetterCounts x = Rules.of(Rules.r(0, 0, 0), Rules.r(0, 5), Rules.r(1, 6), Rules.r(0, 6));
        x.use(1, 50);
        x.use(2, 50);
        checks.due("derive", 5, () -> x.derive(0, 3, 0, 0));
        checks.due("the root's rule", 2, () -> x.use(0, 2));
        checks.due("the leaves' rule had more before", 3, () -> x.use(1, 3));
        checks.due("a rule that isn't in the tree had some before", 0, () -> x.use(2, 0));
        checks.due("a rule that isn't in the tree", 0, () -> x.use(3, 0));
        checks.due("they fit", 0, () -> x.fit(0));
        checks.due("a tree of one step", 1, () -> x.derive(1, 0, 1, 0));
        checks.due("its rule", 1, () -> x.use(2, 1));
        checks.due("a rule of the tree before", 0, () -> x.use(0, 0));
    }

    private void deriveReplaces() {
        LetterCounts x = Rules.of(Rules.r(0, 0, 0), Rules.r(0, 5));
        x.derive(0, 7, 0, 0);
        checks.due("a large tree's last step", 1, () -> x.step(12));
        x.derive(0, 1, 0, 0);
        checks.dueSteps("a small tree behind a large one", x, 1);
        x.derive(0, 2, 0, 0);
        checks.dueSteps("a larger tree behind a small one", x, 0, 1, 1);
        x.derive(0, 2, 0, 0);
        checks.dueSteps("the same tree again", x, 0, 1, 1);
    }

    private void stepWrongIndex() {
        LetterCounts x = Rules.of(Rules.r(0, 1, 1), Rules.r(1, 5));
        x.derive(0, 2, 0, 0);
        checks.dueThrow("far below", INDEX, () -> x.step(Integer.MIN_VALUE));
        checks.dueThrow("just below", INDEX, () -> x.step(-1));
        checks.due("the first", 0, () -> x.step(0));
        checks.due("the last", 1, () -> x.step(2));
        checks.dueThrow("just behind", INDEX, () -> x.step(3));
        checks.dueThrow("500", INDEX, () -> x.step(500));
        checks.dueThrow("far behind", INDEX, () -> x.step(Integer.MAX_VALUE));
    }

    private void stepAtFirst() {
        LetterCounts x = new LetterCounts();
        checks.dueThrow("new", INDEX, () -> x.step(0));
        checks.dueThrow("new, just below", INDEX, () -> x.step(-1));
    }

    private void stepBehindRule() {
        LetterCounts x = Rules.of(Rules.r(0, 5));
        checks.dueThrow("no derive() yet", INDEX, () -> x.step(0));
        x.derive(0, 1, 0, 0);
        checks.due("behind derive()", 0, () -> x.step(0));
        x.rule(4, 6, -1, -1, -1);
        checks.dueThrow("behind rule()", INDEX, () -> x.step(0));
        checks.due("its uses stay", 1, () -> x.use(0, 1));
        x.derive(0, 1, 0, 0);
        checks.due("behind derive() again", 0, () -> x.step(0));
    }

    private void stepBehindClear() {
        LetterCounts x = Rules.of(Rules.r(0, 5));
        x.derive(0, 1, 0, 0);
        x.clear();
        checks.dueThrow("behind clear()", INDEX, () -> x.step(0));
        x.rule(0, 5, -1, -1, -1);
        checks.dueThrow("behind clear() and rule()", INDEX, () -> x.step(0));
    }

    private void stepBehindOthers() {
        LetterCounts x = Rules.of(Rules.r(0, 1, 1), Rules.r(1, 5));
        x.derive(0, 2, 0, 0);
        x.use(0, 0);
        x.use(1, 50);
        x.height(1, 1, 0, 0);
        x.many(1);
        x.count(1, 0);
        x.fit(1);
        x.letters(0);
        x.step(0);
        checks.dueSteps("behind all other calls", x, 0, 1, 1);
    }

    private void useLeastToMost() {
        LetterCounts x = Rules.of(Rules.r(0, 5), Rules.r(1, 6));
        checks.due("at first", 0, () -> x.use(1, 0));
        checks.due("the least", 0, () -> x.use(1, 50));
        checks.due("the greatest", 50, () -> x.use(1, 50));
        checks.due("the greatest again", 50, () -> x.use(1, 1));
        checks.due("one", 1, () -> x.use(1, 49));
        checks.due("one less than the greatest", 49, () -> x.use(1, 0));
        checks.due("the other rule's stay", 0, () -> x.use(0, 0));
    }

    private void useWrongRule() {
        LetterCounts x = Rules.of(Rules.r(0, 5), Rules.r(1, 6));
        checks.dueThrow("far below", ARGUMENT, () -> x.use(Integer.MIN_VALUE, 0));
        checks.dueThrow("just below", ARGUMENT, () -> x.use(-1, 0));
        checks.due("the first", 0, () -> x.use(0, 1));
        checks.due("the last", 0, () -> x.use(1, 1));
        checks.dueThrow("just behind", ARGUMENT, () -> x.use(2, 0));
        checks.dueThrow("far behind", ARGUMENT, () -> x.use(Integer.MAX_VALUE, 0));
    }

    private void useNoneAndTen() {
        LetterCounts x = new LetterCounts();
        checks.dueThrow("there are none", ARGUMENT, () -> x.use(0, 0));
        LetterCounts y = full();
        checks.due("the tenth", 0, () -> y.use(9, 1));
        checks.dueThrow("an eleventh", ARGUMENT, () -> y.use(10, 0));
        y.clear();
        checks.dueThrow("all are gone: the first", ARGUMENT, () -> y.use(0, 0));
        checks.dueThrow("all are gone: the tenth", ARGUMENT, () -> y.use(9, 0));
    }

    private void useWrongMany() {
        LetterCounts x = Rules.of(Rules.r(0, 5));
        x.use(0, 3);
        for (int wrong : new int[] {Integer.MIN_VALUE, -50, -1, 51, 100, Integer.MAX_VALUE}) {
            checks.dueThrow("use(0, " + wrong + ")", ARGUMENT, () -> x.use(0, wrong));
            checks.due("nothing has become of it", 3, () -> x.letters(0));
        }
        checks.due("the least", 3, () -> x.use(0, 0));
        checks.due("the greatest", 0, () -> x.use(0, 50));
    }

    private void fitZero() {
        LetterCounts x = Rules.of(Rules.r(0), Rules.r(1, 1, 1), Rules.r(1, 5));
        x.use(0, 1);
        checks.due("one step", 0, () -> x.fit(0));
        x.use(0, 0);
        x.use(1, 49);
        x.use(2, 50);
        checks.due("as many as can be of a rule", 0, () -> x.fit(1));
        x.use(1, 50);
        checks.due("one more would be too many", 2, () -> x.fit(1));
    }

    private void fitFewOrMany() {
        for (int n = 0; n < 5; n++) {
            int other = n == 4 ? 3 : 4;
            LetterCounts x = Rules.of(Rules.r(n, 5), Rules.r(n, n, other), Rules.r(other));
            int start = n;
            checks.due("one too few of " + n, 1 + n, () -> x.fit(start));
            x.use(0, 1);
            checks.due("just as many of " + n, 0, () -> x.fit(start));
            x.use(0, 2);
            checks.due("one too many of " + n, 1 + n, () -> x.fit(start));
            x.use(0, 1);
            x.use(1, 1);
            checks.due("too few of " + other, 1 + other, () -> x.fit(start));
            x.use(2, 1);
            checks.due("just as many of " + other, 0, () -> x.fit(start));
            x.use(2, 2);
            checks.due("too many of " + other, 1 + other, () -> x.fit(start));
        }
    }

    private void fitLeastSum() {
        LetterCounts x = Rules.of(Rules.r(0), Rules.r(1), Rules.r(2), Rules.r(3), Rules.r(4));
        for (int k = 0; k < 5; k++) {
            x.use(k, 2);
        }
        for (int k = 0; k < 5; k++) {
            int least = k;
            checks.due("too many from " + k + " on", 1 + least, () -> x.fit(4));
            x.use(k, k == 4 ? 1 : 0);
        }
        checks.due("none is wrong", 0, () -> x.fit(4));
        checks.due("too few come before too many", 1, () -> x.fit(0));
        x.use(1, 1);
        checks.due("too many come before too few", 2, () -> x.fit(2));
    }

    private void fitSumsBeforeWays() {
        LetterCounts x = Rules.of(Rules.r(1, 5), Rules.r(0, 0), Rules.r(4));
        x.use(0, 1);
        x.use(1, 1);
        x.use(2, 1);
        checks.due("4 is too many, 0 can't be reached", 5, () -> x.fit(1));
        x.use(2, 0);
        checks.due("0 can't be reached", 11, () -> x.fit(1));
        x.use(1, 0);
        checks.due("nothing is wrong", 0, () -> x.fit(1));
    }

    private void fitLeastWay() {
        LetterCounts x = Rules.of(Rules.r(0, 0), Rules.r(1, 1), Rules.r(2, 2), Rules.r(3, 3), Rules.r(4, 4),
                Rules.r(4), Rules.r(0));
        x.use(5, 1);
        for (int k = 0; k < 5; k++) {
            x.use(k, 50);
        }
        for (int k = 0; k < 4; k++) {
            int least = k;
            checks.due("not reached from " + k + " on", 11 + least, () -> x.fit(4));
            x.use(k, 0);
        }
        checks.due("the start's own ring is reached", 0, () -> x.fit(4));
        x.use(5, 0);
        x.use(6, 1);
        checks.due("the greatest", 15, () -> x.fit(0));
    }

    private void fitNothing() {
        LetterCounts x = new LetterCounts();
        LetterCounts y = full();
        for (int n = 0; n < 5; n++) {
            int start = n;
            checks.due("no rules: fit(" + n + ")", 1 + n, () -> x.fit(start));
            checks.due("no uses: fit(" + n + ")", 1 + n, () -> y.fit(start));
        }
    }

    private void fitWrongNonterminal() {
        LetterCounts x = Rules.of(Rules.r(0, 5), Rules.r(4, 6));
        x.use(0, 1);
        for (int wrong : Rules.NO_NONTERMINALS) {
            checks.dueThrow("fit(" + wrong + ")", ARGUMENT, () -> x.fit(wrong));
        }
        checks.due("the least", 0, () -> x.fit(0));
        checks.due("the greatest", 1, () -> x.fit(4));
    }

    private void lettersNoneToAll() {
        for (int letter = 0; letter < 3; letter++) {
            LetterCounts x = new LetterCounts();
            int s = 5 + letter;
            int asked = letter;
            checks.due("no rules", 0, () -> x.letters(asked));
            for (int k = 0; k < MOST_RULES; k++) {
                x.rule(0, s, s, s, s);
            }
            checks.due("no uses", 0, () -> x.letters(asked));
            for (int k = 0; k < MOST_RULES; k++) {
                x.use(k, 50);
            }
            checks.due("as many as can be", 2000, () -> x.letters(asked));
            checks.due("none of another", 0, () -> x.letters((asked + 1) % 3));
            checks.due("none of the third", 0, () -> x.letters((asked + 2) % 3));
        }
    }

    private void lettersWrongLetter() {
        LetterCounts x = Rules.of(Rules.r(0, 5, 6, 7));
        x.use(0, 1);
        for (int wrong : new int[] {Integer.MIN_VALUE, -1, 3, 4, 5, 6, 7, 8, Integer.MAX_VALUE}) {
            checks.dueThrow("letters(" + wrong + ")", ARGUMENT, () -> x.letters(wrong));
        }
        checks.due("the least", 1, () -> x.letters(0));
        checks.due("the greatest", 1, () -> x.letters(2));
    }
}
