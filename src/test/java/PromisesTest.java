/** Each promise by ordinary inputs, with answers worked out by hand; the edges have tests of their own. */
public final class PromisesTest {
    private final Checks checks = new Checks();

    public static void main(String[] args) {
        PromisesTest test = new PromisesTest();
        test.promise1();
        test.promise2();
        test.promise3();
        test.promise4();
        test.promise5();
        test.promise6();
        test.promise7();
        test.promise7LeastRule();
        test.promise7FirstCounts();
        test.promise7TallTree();
        test.promise8();
        test.promise9();
        test.promise10();
        test.promise10Rings();
        test.promise11();
        test.checks.end();
    }

    private void promise1() {
        LetterCounts x = new LetterCounts();
        checks.due("a new object has no counts", 0, () -> x.many(0));
        x.rule(0, 5, -1, -1, -1);
        LetterCounts y = new LetterCounts();
        checks.due("nor has another one", 0, () -> y.many(0));
        checks.due("which leaves the first alone", 1, () -> x.many(0));
    }

    private void promise2() {
        LetterCounts x = new LetterCounts();
        checks.due("a rule", 0, () -> x.rule(0, 1, 5, 2, -1));
        checks.due("a second rule", 1, () -> x.rule(1, 6, 6, -1, -1));
        checks.due("one tree is missing", 0, () -> x.many(0));
        checks.due("a third rule", 2, () -> x.rule(2, 7, -1, -1, -1));
        checks.due("no tree is missing", 2, () -> x.height(0, 1, 2, 1));
        checks.due("the same rule once more", 3, () -> x.rule(2, 7, -1, -1, -1));
        checks.due("makes nothing new", 1, () -> x.many(0));
    }

    private void promise3() {
        LetterCounts x = Rules.of(Rules.r(0, 0, 0), Rules.r(0, 5), Rules.r(1, 6, 7));
        x.derive(0, 3, 0, 0);
        x.clear();
        checks.due("no counts", 0, () -> x.many(0) + x.many(1));
        checks.due("no uses", 0, () -> x.letters(0));
        checks.due("a rule", 0, () -> x.rule(0, 1, 7, -1, -1));
        checks.due("its trees are missing", -1, () -> x.height(0, 0, 1, 2));
    }

    private void promise4() {
        LetterCounts x = Rules.of(Rules.r(0, 0, 0), Rules.r(0, 5), Rules.r(1, 0, 2), Rules.r(2, 2, 6), Rules.r(2, 6));
        checks.due("one leaf", 1, () -> x.height(0, 1, 0, 0));
        checks.due("two leaves", 2, () -> x.height(0, 2, 0, 0));
        checks.due("three leaves", 3, () -> x.height(0, 3, 0, 0));
        checks.due("four leaves", 3, () -> x.height(0, 4, 0, 0));
        checks.due("seven leaves", 4, () -> x.height(0, 7, 0, 0));
        checks.due("no word is empty", -1, () -> x.height(0, 0, 0, 0));
        checks.due("the higher of two", 8, () -> x.height(1, 7, 7, 0));
        checks.due("the other letter only", -1, () -> x.height(2, 1, 1, 0));
        x.rule(1, 5, 5, 6, -1);
        checks.due("a rule more makes it less high", 1, () -> x.height(1, 2, 1, 0));
    }

    private void promise5() {
        LetterCounts x = Rules.of(Rules.r(1, 5, 6), Rules.r(1, 1, 1), Rules.r(3, 5), Rules.r(3, 6), Rules.r(2, 3, 3));
        checks.due("as many of two letters", 7, () -> x.many(1));
        checks.due("two", 2, () -> x.many(3));
        checks.due("one and one of two", 3, () -> x.many(2));
        x.rule(3, 1, -1, -1, -1);
        checks.due("a new rule counts", 9, () -> x.many(3));
    }

    private void promise6() {
        LetterCounts x = Rules.of(Rules.r(0, 1, 1), Rules.r(1, 7), Rules.r(1, 6), Rules.r(1, 5));
        int[] want = {2, 9, 16, 65, 72, 128};
        for (int k = 0; k < want.length; k++) {
            int at = k;
            checks.due("count(0, " + k + ")", want[k], () -> x.count(0, at));
        }
        checks.due("as many as there are", want.length, () -> x.many(0));
    }

    private void promise7() {
        LetterCounts x = Rules.of(Rules.r(0, 5, 0, 6), Rules.r(0));
        checks.due("three and three", 4, () -> x.derive(0, 3, 3, 0));
        checks.dueSteps("three and three", x, 0, 0, 0, 1);
        checks.due("uses of the first rule", 3, () -> x.use(0, 3));
        checks.due("uses of the second rule", 1, () -> x.use(1, 1));
        checks.due("the letters", 3, () -> x.letters(1));
    }

    private void promise7LeastRule() {
        LetterCounts x = Rules.of(Rules.r(0, 1), Rules.r(0, 5, 5), Rules.r(0, 5, 5), Rules.r(1, 5, 5), Rules.r(2, 1),
                Rules.r(2, 0), Rules.r(2, 1));
        checks.due("least height before least rule", 1, () -> x.derive(0, 2, 0, 0));
        checks.dueSteps("least height before least rule", x, 1);
        checks.due("the least of three rules", 2, () -> x.derive(2, 2, 0, 0));
        checks.dueSteps("the least of three rules", x, 4, 3);
    }

    private void promise7FirstCounts() {
        LetterCounts x = Rules.of(Rules.r(0, 1, 1), Rules.r(1, 5, 5), Rules.r(1, 5), Rules.r(1), Rules.r(1, 6),
                Rules.r(1, 5, 6), Rules.r(2, 1, 7, 1, 1));
        checks.due("one and one", 3, () -> x.derive(0, 1, 1, 0));
        checks.dueSteps("nothing comes first", x, 0, 3, 5);
        checks.due("two and one", 3, () -> x.derive(0, 2, 1, 0));
        checks.dueSteps("letter 0 counts less than letter 1", x, 0, 2, 5);
        checks.due("three trees", 4, () -> x.derive(2, 3, 1, 1));
        checks.dueSteps("the first, then the second", x, 6, 3, 1, 5);
        checks.due("two of letter 1", 3, () -> x.derive(0, 1, 2, 0));
        checks.dueSteps("letter 1 in both", x, 0, 4, 5);
        LetterCounts y = Rules.of(Rules.r(0, 1, 2), Rules.r(1, 7), Rules.r(1, 6), Rules.r(1, 5), Rules.r(2, 5, 6),
                Rules.r(2, 5, 7), Rules.r(2, 6, 7));
        checks.due("one of each", 3, () -> y.derive(0, 1, 1, 1));
        checks.dueSteps("the order of counts, not of rules", y, 0, 3, 6);
        LetterCounts z = Rules.of(Rules.r(0, 1, 2, 3, 4), Rules.r(1, 4), Rules.r(1, 5), Rules.r(2, 5), Rules.r(2),
                Rules.r(3, 5), Rules.r(3), Rules.r(4), Rules.r(4, 6));
        checks.due("four trees", 5, () -> z.derive(0, 2, 0, 0));
        checks.dueSteps("none would be first but for its height", z, 0, 2, 4, 5, 7);
    }

    private void promise7TallTree() {
        LetterCounts x = Rules.of(Rules.r(0, 1), Rules.r(1, 2), Rules.r(2, 3), Rules.r(3, 4), Rules.r(4, 0, 5),
                Rules.r(4, 0, 6), Rules.r(4, 0, 7), Rules.r(4));
        checks.due("all its steps", 110, () -> x.derive(0, 7, 7, 7));
        checks.due("the first letter by the least rule", 4, () -> x.step(4));
        checks.due("the lowest letter by the last one", 6, () -> x.step(104));
        checks.due("the step before the last", 3, () -> x.step(108));
        checks.due("all its letters", 21, () -> x.letters(0) + x.letters(1) + x.letters(2));
    }

    private void promise8() {
        LetterCounts x = Rules.of(Rules.r(0, 1, 2, 1), Rules.r(1, 2, 2), Rules.r(2, 5));
        x.derive(0, 5, 0, 0);
        checks.dueSteps("trees below from left to right", x, 0, 1, 2, 2, 2, 1, 2, 2);
        x.derive(1, 2, 0, 0);
        checks.dueSteps("another tree", x, 1, 2, 2);
    }

    private void promise9() {
        LetterCounts x = Rules.of(Rules.r(0, 5), Rules.r(1, 6, 6));
        checks.due("at first", 0, () -> x.use(1, 12));
        checks.due("then", 12, () -> x.use(1, 3));
        checks.due("the other rule's", 0, () -> x.use(0, 0));
        checks.due("and then", 3, () -> x.use(1, 3));
        checks.due("counts stay", 1, () -> x.height(0, 1, 0, 0));
    }

    private void promise10() {
        LetterCounts x = Rules.of(Rules.r(0, 1, 1), Rules.r(1, 5), Rules.r(1, 2, 2), Rules.r(2, 6), Rules.r(3, 3),
                Rules.r(4, 3), Rules.r(3, 4));
        x.use(0, 1);
        checks.due("too few of the next one", 2, () -> x.fit(0));
        x.use(1, 2);
        checks.due("just as many", 0, () -> x.fit(0));
        checks.due("not from another start", 1, () -> x.fit(1));
        x.use(1, 1);
        x.use(2, 1);
        checks.due("too few further on", 3, () -> x.fit(0));
        x.use(3, 2);
        checks.due("just as many again", 0, () -> x.fit(0));
        x.use(4, 50);
        checks.due("a loop that can't be reached", 14, () -> x.fit(0));
        x.use(5, 1);
        x.use(6, 1);
        checks.due("a ring with the loop in it", 14, () -> x.fit(0));
    }

    private void promise10Rings() {
        LetterCounts x = Rules.of(Rules.r(4, 4, 4), Rules.r(4, 7), Rules.r(0, 0), Rules.r(3, 2), Rules.r(2, 1),
                Rules.r(1, 3), Rules.r(4, 3), Rules.r(4, 0), Rules.r(0));
        x.use(1, 1);
        checks.due("a leaf alone", 0, () -> x.fit(4));
        x.use(3, 1);
        x.use(4, 1);
        x.use(5, 1);
        checks.due("the least of three in a ring", 12, () -> x.fit(4));
        x.use(7, 1);
        x.use(8, 1);
        x.use(0, 1);
        checks.due("a ring beside a tree", 12, () -> x.fit(4));
        x.use(3, 0);
        x.use(4, 0);
        x.use(5, 0);
        x.use(2, 50);
        checks.due("a loop that can be reached", 0, () -> x.fit(4));
    }

    private void promise11() {
        LetterCounts x = Rules.of(Rules.r(0, 5, 5, 5, 5), Rules.r(1, 0, 6, 5), Rules.r(2, 7), Rules.r(2));
        x.use(0, 50);
        x.use(1, 3);
        x.use(3, 50);
        checks.due("letter 0", 203, () -> x.letters(0));
        checks.due("letter 1", 3, () -> x.letters(1));
        checks.due("letter 2", 0, () -> x.letters(2));
        x.use(2, 4);
        checks.due("letter 2 then", 4, () -> x.letters(2));
    }
}
