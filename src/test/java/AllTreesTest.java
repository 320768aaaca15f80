import java.util.ArrayList;
import java.util.Arrays;
import java.util.Collections;
import java.util.HashMap;
import java.util.List;
import java.util.Map;
import java.util.stream.IntStream;

/**
 * Height and derive against all trees of small grammars up to some height: the least height and THE tree are
 * picked by looking at each of them.
 */
public final class AllTreesTest {
    private static final int GRAMMARS = 300;
    private static final int MOST_TREES = 2_000;
    private static final int HIGHEST = 5;

    private record Tree(int rule, int count, int height, List<Tree> below) {
        void addSteps(List<Integer> steps) {
            steps.add(rule);
            for (Tree tree : below) {
                tree.addSteps(steps);
            }
        }
    }

    private final Checks checks = new Checks();
    private long seed = 20261116;
    private int[][] rules;

    /** All trees of each nonterminal, up to the height that is looked at. */
    private List<List<Tree>> trees;

    private Map<Integer, Tree> chosen;

    public static void main(String[] args) {
        AllTreesTest test = new AllTreesTest();
        int looked = 0;
        while (looked < GRAMMARS && test.checks.wrong() == 0) {
            test.makeGrammar();
            int highest = 2 + test.next(HIGHEST - 1);
            if (test.makeTrees(highest)) {
                test.lookAt(highest);
                looked++;
                test.tellRulesOfFault();
            }
        }
        test.checks.end();
    }

    private void tellRulesOfFault() {
        if (checks.wrong() > 0) {
            System.out.println("with the rules " + Arrays.deepToString(rules));
        }
    }

    private void makeGrammar() {
        rules = new int[1 + next(8)][5];
        int nonterminals = 1 + next(5);
        for (int[] rule : rules) {
            boolean leaf = next(2) == 0;
            rule[0] = next(nonterminals);
            for (int i = 1; i < 5; i++) {
                rule[i] = next(2) == 0 ? -1 : leaf || next(3) == 0 ? 5 + next(3) : next(nonterminals);
            }
        }
    }

    /** False if there are too many of them to look at. */
    private boolean makeTrees(int highest) {
        trees = noTrees();
        for (int h = 1; h <= highest; h++) {
            List<List<Tree>> next = noTrees();
            for (int r = 0; r < rules.length; r++) {
                if (!addTrees(next.get(rules[r][0]), r, 1, 0, new ArrayList<>())) {
                    return false;
                }
            }
            trees = next;
        }
        return true;
    }

    private static List<List<Tree>> noTrees() {
        List<List<Tree>> none = new ArrayList<>();
        for (int n = 0; n < 5; n++) {
            none.add(new ArrayList<>());
        }
        return none;
    }

    /** The trees with rule r at the root, when its places before the given one have been seen to. */
    private boolean addTrees(List<Tree> into, int r, int place, int count, List<Tree> below) {
        if (count < 0) {
            return true;
        }
        if (place > 4) {
            int highest = below.stream().mapToInt(Tree::height).max().orElse(0);
            into.add(new Tree(r, count, 1 + highest, List.copyOf(below)));
            return into.size() <= MOST_TREES;
        }
        int symbol = rules[r][place];
        if (symbol < 0) {
            return addTrees(into, r, place + 1, count, below);
        }
        if (symbol > 4) {
            return addTrees(into, r, place + 1, sum(count, 1 << (3 * (symbol - 5))), below);
        }
        boolean fine = true;
        for (int k = 0; k < trees.get(symbol).size() && fine; k++) {
            Tree tree = trees.get(symbol).get(k);
            below.add(tree);
            fine = addTrees(into, r, place + 1, sum(count, tree.count), below);
            below.remove(below.size() - 1);
        }
        return fine;
    }

    /** -1 if there are more than 7 of a letter. */
    private static int sum(int one, int other) {
        int a = one % 8 + other % 8;
        int b = one / 8 % 8 + other / 8 % 8;
        int c = one / 64 + other / 64;
        return a > 7 || b > 7 || c > 7 ? -1 : a + 8 * b + 64 * c;
    }

    private void lookAt(int highest) {
        chosen = new HashMap<>();
        for (int n = 0; n < 5; n++) {
            for (int c = 0; c < 8; c++) {
                lookAtHeights(n, c, highest);
            }
            for (int count = 0; count < 512; count++) {
                if (theTree(n, count) != null) {
                    lookAtSteps(n, count);
                }
            }
        }
    }

    private void lookAtHeights(int n, int c, int highest) {
        LetterCounts x = Rules.of(rules);
        for (int count = 64 * c; count < 64 * c + 64; count++) {
            Tree tree = theTree(n, count);
            String call = "height(" + textOf(n, count) + ")";
            int height = x.height(n, count % 8, count / 8 % 8, c);
            if (tree != null) {
                checks.dueText(call, Integer.toString(tree.height), Integer.toString(height));
            } else {
                checks.dueText(call + ", which is none or more than " + highest + ",", "true",
                        Boolean.toString(height == -1 || height > highest));
            }
        }
    }

    private void lookAtSteps(int n, int count) {
        List<Integer> steps = new ArrayList<>();
        theTree(n, count).addSteps(steps);
        boolean tooLarge = steps.size() > 500
                || steps.stream().anyMatch(step -> Collections.frequency(steps, step) > 50);
        checks.dueText("derive(" + textOf(n, count) + ")",
                tooLarge ? "throws.UnsupportedOperationException" : steps.toString(), derivedSteps(n, count));
    }

    private String derivedSteps(int n, int count) {
        LetterCounts x = Rules.of(rules);
        try {
            int many = x.derive(n, count % 8, count / 8 % 8, count / 64);
            return IntStream.range(0, many).map(x::step).boxed().toList().toString();
        } catch (RuntimeException e) {
            return "throws." + e.getClass().getSimpleName();
        }
    }

    /** THE tree of a nonterminal and a count, or null. */
    private Tree theTree(int n, int count) {
        int key = n * 512 + count;
        if (!chosen.containsKey(key)) {
            chosen.put(key, chooseTree(n, count));
        }
        return chosen.get(key);
    }

    private Tree chooseTree(int n, int count) {
        Tree best = null;
        for (Tree tree : trees.get(n)) {
            if (tree.count == count && (best == null || comesBefore(tree, best))) {
                best = tree;
            }
        }
        if (best == null) {
            return null;
        }
        List<Tree> below = new ArrayList<>();
        for (Tree tree : best.below) {
            below.add(theTree(rules[tree.rule][0], tree.count));
        }
        return new Tree(best.rule, count, best.height, below);
    }

    private static boolean comesBefore(Tree one, Tree other) {
        if (one.height != other.height) {
            return one.height < other.height;
        }
        if (one.rule != other.rule) {
            return one.rule < other.rule;
        }
        for (int i = 0; i < one.below.size(); i++) {
            if (one.below.get(i).count != other.below.get(i).count) {
                return one.below.get(i).count < other.below.get(i).count;
            }
        }
        return false;
    }

    private static String textOf(int n, int count) {
        return n + ", " + count % 8 + ", " + count / 8 % 8 + ", " + count / 64;
    }

    private int next(int bound) {
        seed = seed * 6364136223846793005L + 1442695040888963407L;
        return (int) ((seed >>> 33) % bound);
    }
}
