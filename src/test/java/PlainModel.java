import java.util.ArrayList;
import java.util.Arrays;
import java.util.HashMap;
import java.util.List;
import java.util.Map;
import java.util.NoSuchElementException;

/**
 * The document's words put down as plainly as can be, to compare the class with. Shares no way of working
 * with it: counts are rows of three numbers, splits are tried one by one, and nothing is kept but heights.
 */
final class PlainModel {
    private static final int FAR_TOO_MANY_STEPS = 20_000;

    private final List<int[]> rules = new ArrayList<>();
    private final List<Integer> uses = new ArrayList<>();
    private List<Integer> tree = new ArrayList<>();
    private int[][] heights;

    /** What canMake has answered for a height: 0 not asked yet, 1 it can, 2 it can't. */
    private byte[] tried;

    int rule(int left, int a, int b, int c, int d) {
        checkNonterminal(left);
        for (int symbol : new int[] {a, b, c, d}) {
            check(symbol >= -1 && symbol <= 7);
        }
        if (rules.size() == 10) {
            throw new IllegalStateException();
        }
        rules.add(new int[] {left, a, b, c, d});
        uses.add(0);
        tree = new ArrayList<>();
        heights = null;
        return rules.size() - 1;
    }

    void clear() {
        rules.clear();
        uses.clear();
        tree = new ArrayList<>();
        heights = null;
    }

    int height(int n, int a, int b, int c) {
        checkNonterminal(n);
        int count = checkedCount(a, b, c);
        int height = heights()[n][count];
        return height == 0 ? -1 : height;
    }

    int many(int n) {
        checkNonterminal(n);
        return counts(n).size();
    }

    int count(int n, int k) {
        checkNonterminal(n);
        return counts(n).get(k);
    }

    int derive(int n, int a, int b, int c) {
        checkNonterminal(n);
        int count = checkedCount(a, b, c);
        if (heights()[n][count] == 0) {
            throw new NoSuchElementException();
        }
        List<Integer> steps = new ArrayList<>();
        addSteps(steps, n, count);
        int[] used = new int[10];
        for (int r : steps) {
            used[r]++;
        }
        if (steps.size() > 500 || Arrays.stream(used).anyMatch(many -> many > 50)) {
            throw new UnsupportedOperationException();
        }
        tree = steps;
        for (int r = 0; r < rules.size(); r++) {
            uses.set(r, used[r]);
        }
        return steps.size();
    }

    int step(int k) {
        return tree.get(k);
    }

    /** How many steps the tree that is looked at has; none if there is no such tree. */
    int steps() {
        return tree.size();
    }

    int use(int rule, int many) {
        check(rule >= 0 && rule < rules.size());
        check(many >= 0 && many <= 50);
        return uses.set(rule, many);
    }

    int fit(int n) {
        checkNonterminal(n);
        int[] over = new int[5];
        over[n] = -1;
        for (int r = 0; r < rules.size(); r++) {
            over[rules.get(r)[0]] += uses.get(r);
            for (int below : below(r)) {
                over[below] -= uses.get(r);
            }
        }
        for (int m = 0; m < 5; m++) {
            if (over[m] != 0) {
                return 1 + m;
            }
        }
        boolean[] reached = new boolean[5];
        reach(n, reached);
        for (int m = 0; m < 5; m++) {
            for (int r = 0; r < rules.size(); r++) {
                if (rules.get(r)[0] == m && uses.get(r) > 0 && !reached[m]) {
                    return 11 + m;
                }
            }
        }
        return 0;
    }

    int letters(int letter) {
        check(letter >= 0 && letter <= 2);
        int sum = 0;
        for (int r = 0; r < rules.size(); r++) {
            for (int i = 1; i <= 4; i++) {
                if (rules.get(r)[i] == 5 + letter) {
                    sum += uses.get(r);
                }
            }
        }
        return sum;
    }

    /** What FIT means at first hand: whether some derivation uses each rule just so often. */
    boolean someDerivation(int n) {
        List<Integer> pending = new ArrayList<>();
        pending.add(n);
        int[] left = uses.stream().mapToInt(Integer::intValue).toArray();
        return derivable(pending, left, new HashMap<>());
    }

    private boolean derivable(List<Integer> pending, int[] left, Map<String, Boolean> known) {
        if (pending.isEmpty()) {
            return Arrays.stream(left).allMatch(many -> many == 0);
        }
        List<Integer> sorted = new ArrayList<>(pending);
        sorted.sort(null);
        String key = sorted + Arrays.toString(left);
        Boolean before = known.get(key);
        if (before != null) {
            return before;
        }
        boolean can = false;
        // The order in which nonterminals are rewritten makes no difference, so the first one goes first.
        int first = pending.get(0);
        for (int r = 0; r < rules.size() && !can; r++) {
            if (rules.get(r)[0] == first && left[r] > 0) {
                List<Integer> next = new ArrayList<>(pending.subList(1, pending.size()));
                next.addAll(below(r));
                int[] fewer = left.clone();
                fewer[r]--;
                can = derivable(next, fewer, known);
            }
        }
        known.put(key, can);
        return can;
    }

    private void reach(int n, boolean[] reached) {
        if (reached[n]) {
            return;
        }
        reached[n] = true;
        for (int r = 0; r < rules.size(); r++) {
            if (rules.get(r)[0] == n && uses.get(r) > 0) {
                for (int below : below(r)) {
                    reach(below, reached);
                }
            }
        }
    }

    private void addSteps(List<Integer> steps, int n, int count) {
        if (steps.size() > FAR_TOO_MANY_STEPS) {
            return;
        }
        int h = heights[n][count];
        tried = new byte[10 * 5 * 512];
        for (int r = 0; r < rules.size(); r++) {
            if (rules.get(r)[0] == n && canBeRoot(r, count, h)) {
                steps.add(r);
                for (int[] child : firstBelow(r, count, h)) {
                    addSteps(steps, child[0], child[1]);
                }
                return;
            }
        }
        throw new AssertionError("no root");
    }

    private List<int[]> firstBelow(int r, int count, int h) {
        List<int[]> children = new ArrayList<>();
        int rest = minus(count, lettersOf(r));
        List<Integer> below = below(r);
        for (int i = 0; i < below.size(); i++) {
            int first = firstPossible(r, i, rest, h);
            children.add(new int[] {below.get(i), first});
            rest = minus(rest, first);
        }
        return children;
    }

    private int firstPossible(int r, int i, int rest, int h) {
        int n = below(r).get(i);
        for (int count = 0; count <= rest; count++) {
            if (isBelow(heights[n][count], h) && minus(rest, count) >= 0
                    && canMake(r, i + 1, minus(rest, count), h)) {
                return count;
            }
        }
        return -1;
    }

    private boolean canBeRoot(int r, int count, int h) {
        int rest = minus(count, lettersOf(r));
        return rest >= 0 && canMake(r, 0, rest, h);
    }

    /** Whether trees less high than h, for the nonterminals of a right side from the i-th on, make a count. */
    private boolean canMake(int r, int i, int rest, int h) {
        if (i == below(r).size()) {
            return rest == 0;
        }
        int key = (r * 5 + i) * 512 + rest;
        if (tried[key] == 0) {
            tried[key] = (byte) (firstPossible(r, i, rest, h) >= 0 ? 1 : 2);
        }
        return tried[key] == 1;
    }

    private static boolean isBelow(int height, int h) {
        return height > 0 && height < h;
    }

    private int[][] heights() {
        if (heights != null) {
            return heights;
        }
        heights = new int[5][512];
        boolean more = true;
        for (int h = 1; more; h++) {
            more = false;
            tried = new byte[10 * 5 * 512];
            for (int r = 0; r < rules.size(); r++) {
                int n = rules.get(r)[0];
                for (int count = 0; count < 512; count++) {
                    if (heights[n][count] == 0 && canBeRoot(r, count, h)) {
                        heights[n][count] = h;
                        more = true;
                    }
                }
            }
        }
        return heights;
    }

    private List<Integer> counts(int n) {
        List<Integer> counts = new ArrayList<>();
        for (int count = 0; count < 512; count++) {
            if (heights()[n][count] != 0) {
                counts.add(count);
            }
        }
        return counts;
    }

    private List<Integer> below(int r) {
        List<Integer> below = new ArrayList<>();
        for (int i = 1; i <= 4; i++) {
            int symbol = rules.get(r)[i];
            if (symbol >= 0 && symbol <= 4) {
                below.add(symbol);
            }
        }
        return below;
    }

    private int lettersOf(int r) {
        int[] many = new int[3];
        for (int i = 1; i <= 4; i++) {
            if (rules.get(r)[i] >= 5) {
                many[rules.get(r)[i] - 5]++;
            }
        }
        return many[0] + 8 * many[1] + 64 * many[2];
    }

    /** -1 if there are too few of a letter. */
    private static int minus(int count, int less) {
        int a = count % 8 - less % 8;
        int b = count / 8 % 8 - less / 8 % 8;
        int c = count / 64 - less / 64;
        return a < 0 || b < 0 || c < 0 ? -1 : a + 8 * b + 64 * c;
    }

    private static int checkedCount(int a, int b, int c) {
        for (int number : new int[] {a, b, c}) {
            check(number >= 0 && number <= 7);
        }
        return a + 8 * b + 64 * c;
    }

    private static void checkNonterminal(int n) {
        check(n >= 0 && n <= 4);
    }

    private static void check(boolean right) {
        if (!right) {
            throw new IllegalArgumentException();
        }
    }
}
