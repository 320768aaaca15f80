import java.util.Arrays;
import java.util.NoSuchElementException;

/**
 * What letters words of a grammar have, and how many: which counts some word has, by trees of least
 * height; and whether uses of rules are those of some derivation, by sums and ways alone.
 *
 * <p>A count of a, b and c letters is held as the number a + 8 b + 64 c throughout.
 */
public final class LetterCounts {
    public static final int NONE = -1;

    private static final int NONTERMINALS = 5;
    private static final int LETTERS = 3;
    private static final int PLACES = 4;
    private static final int LAST_SYMBOL = NONTERMINALS + LETTERS - 1;
    private static final int MOST_RULES = 10;
    private static final int MOST_USES = 50;
    private static final int MOST_STEPS = 500;
    private static final int MOST_OF_A_LETTER = 7;
    private static final int COUNTS = 512;

    /** Stands for the height of what has no tree: above all heights, so that it is never the least. */
    private static final int NEVER = 1_000_000;

    private final Nonterminal[] nonterminals = new Nonterminal[NONTERMINALS];

    /** Filled when first needed, for an object with few rules should take little room. */
    private final Rule[] rules = new Rule[MOST_RULES];

    private int made = 0;

    /** Whether the rules have changed since the counts were last worked out. */
    private boolean stale = true;

    private final int[] steps = new int[MOST_STEPS];
    private int stepsMade = 0;

    /** A tree is walked here first, for it may turn out too large, and then nothing may change. */
    private final Walk walk = new Walk();

    public LetterCounts() {
        for (int n = 0; n < NONTERMINALS; n++) {
            nonterminals[n] = new Nonterminal();
        }
    }

    public int rule(int left, int a, int b, int c, int d)
            throws IllegalArgumentException, IllegalStateException {
        requireNonterminal(left);
        requireSymbol(a);
        requireSymbol(b);
        requireSymbol(c);
        requireSymbol(d);
        if (made >= MOST_RULES) {
            throw new IllegalStateException("there are ten rules");
        }
        if (rules[made] == null) {
            rules[made] = new Rule();
        }
        Rule next = rules[made];
        next.begin(left);
        next.append(a);
        next.append(b);
        next.append(c);
        next.append(d);
        made++;
        rulesChanged();
        return made - 1;
    }

    public void clear() {
        made = 0;
        rulesChanged();
    }

    public int height(int n, int a, int b, int c) throws IllegalArgumentException {
        requireNonterminal(n);
        int count = countOf(a, b, c);
        workOut();
        int least = nonterminals[n].heights[count];
        return least == NEVER ? NONE : least;
    }

    public int many(int n) throws IllegalArgumentException {
        requireNonterminal(n);
        workOut();
        return nonterminals[n].had.size();
    }

    public int count(int n, int k) throws IllegalArgumentException, IndexOutOfBoundsException {
        requireNonterminal(n);
        workOut();
        CountSet had = nonterminals[n].had;
        if (k < 0 || k >= had.size()) {
            throw new IndexOutOfBoundsException("no such count");
        }
        return had.at(k);
    }

    public int derive(int n, int a, int b, int c)
            throws IllegalArgumentException, NoSuchElementException, UnsupportedOperationException {
        requireNonterminal(n);
        int count = countOf(a, b, c);
        workOut();
        if (!nonterminals[n].had.holds(count)) {
            throw new NoSuchElementException("no tree has this count");
        }
        if (!walk.through(nonterminals, rules, n, count)) {
            throw new UnsupportedOperationException("the tree is too large");
        }
        stepsMade = walk.size;
        System.arraycopy(walk.steps, 0, steps, 0, stepsMade);
        for (int r = 0; r < made; r++) {
            rules[r].uses = walk.uses[r];
        }
        return stepsMade;
    }

    public int step(int k) throws IndexOutOfBoundsException {
        if (k < 0 || k >= stepsMade) {
            throw new IndexOutOfBoundsException("no such step");
        }
        return steps[k];
    }

    public int use(int rule, int many) throws IllegalArgumentException {
        if (rule < 0 || rule >= made) {
            throw new IllegalArgumentException("no such rule");
        }
        if (many < 0 || many > MOST_USES) {
            throw new IllegalArgumentException("uses are 0 to 50");
        }
        int before = rules[rule].uses;
        rules[rule].uses = many;
        return before;
    }

    public int fit(int n) throws IllegalArgumentException {
        requireNonterminal(n);
        for (int m = 0; m < NONTERMINALS; m++) {
            int asked = timesOnTheRight(m) + (m == n ? 1 : 0);
            if (timesOnTheLeft(m) != asked) {
                return 1 + m;
            }
        }
        int reached = reachedFrom(n);
        for (int m = 0; m < NONTERMINALS; m++) {
            if (timesOnTheLeft(m) > 0 && ((reached >> m) & 1) == 0) {
                return 11 + m;
            }
        }
        return 0;
    }

    public int letters(int letter) throws IllegalArgumentException {
        if (letter < 0 || letter >= LETTERS) {
            throw new IllegalArgumentException("no such letter");
        }
        int sum = 0;
        for (int r = 0; r < made; r++) {
            sum += rules[r].uses * rules[r].lettersOf(letter);
        }
        return sum;
    }

    private static void requireNonterminal(int n) {
        if (n < 0 || n >= NONTERMINALS) {
            throw new IllegalArgumentException("no such nonterminal");
        }
    }

    private static void requireSymbol(int symbol) {
        if (symbol < NONE || symbol > LAST_SYMBOL) {
            throw new IllegalArgumentException("no such symbol");
        }
    }

    private static void requireNumber(int number) {
        if (number < 0 || number > MOST_OF_A_LETTER) {
            throw new IllegalArgumentException("numbers of letters are 0 to 7");
        }
    }

    private static int countOf(int a, int b, int c) {
        requireNumber(a);
        requireNumber(b);
        requireNumber(c);
        return a + 8 * b + 64 * c;
    }

    private void rulesChanged() {
        stale = true;
        stepsMade = 0;
    }

    /**
     * Round h finds what has height h, from what earlier rounds found. It waits until an answer needs it,
     * for most rules are followed by another rule.
     */
    private void workOut() {
        if (!stale) {
            return;
        }
        for (int n = 0; n < NONTERMINALS; n++) {
            nonterminals[n].forget();
        }
        for (int r = 0; r < made; r++) {
            rules[r].forget();
        }
        // Each round but the last finds a count of some nonterminal, so there are no more rounds than this.
        boolean found = true;
        for (int round = 1; round <= NONTERMINALS * COUNTS + 1 && found; round++) {
            found = runRound(round);
        }
        stale = false;
    }

    private boolean runRound(int round) {
        for (int r = 0; r < made; r++) {
            Rule rule = rules[r];
            rule.grow(nonterminals, round);
            nonterminals[rule.left].find(rule.newestCounts(), r, round);
        }
        boolean found = false;
        for (int n = 0; n < NONTERMINALS; n++) {
            nonterminals[n].endRound();
            found = found || !nonterminals[n].newest.isEmpty();
        }
        return found;
    }

    private int timesOnTheLeft(int n) {
        int sum = 0;
        for (int r = 0; r < made; r++) {
            if (rules[r].left == n) {
                sum += rules[r].uses;
            }
        }
        return sum;
    }

    private int timesOnTheRight(int n) {
        int sum = 0;
        for (int r = 0; r < made; r++) {
            sum += rules[r].uses * rules[r].timesOf(n);
        }
        return sum;
    }

    /** The nonterminals that rules in use lead to, a bit for each. */
    private int reachedFrom(int n) {
        int reached = 1 << n;
        // No way to a nonterminal need be longer than there are nonterminals.
        for (int length = 1; length < NONTERMINALS; length++) {
            for (int r = 0; r < made; r++) {
                if (rules[r].uses > 0 && ((reached >> rules[r].left) & 1) != 0) {
                    reached |= rules[r].nonterminalBits();
                }
            }
        }
        return reached;
    }

    /**
     * A set of counts: for each number of letter 2 a plane of 64 bits, for then one shift adds a count to
     * all counts of a plane.
     */
    private static final class CountSet {
        private static final int PLANES = 8;
        private static final int PLANE_BITS = 64;
        private static final long FIRST_COLUMN = 0x0101010101010101L;

        private final long[] planes = new long[PLANES];

        void empty() {
            Arrays.fill(planes, 0L);
        }

        boolean isEmpty() {
            long any = 0L;
            for (int p = 0; p < PLANES; p++) {
                any |= planes[p];
            }
            return any == 0L;
        }

        int size() {
            int sum = 0;
            for (int p = 0; p < PLANES; p++) {
                sum += Long.bitCount(planes[p]);
            }
            return sum;
        }

        boolean holds(int count) {
            return ((planes[count >> 6] >>> (count & 63)) & 1L) != 0L;
        }

        void add(int count) {
            planes[count >> 6] |= 1L << (count & 63);
        }

        int at(int k) {
            int before = 0;
            for (int count = 0; count < COUNTS; count++) {
                if (holds(count)) {
                    if (before == k) {
                        return count;
                    }
                    before++;
                }
            }
            return NONE;
        }

        void become(CountSet other) {
            System.arraycopy(other.planes, 0, planes, 0, PLANES);
        }

        void addAll(CountSet others) {
            for (int p = 0; p < PLANES; p++) {
                planes[p] |= others.planes[p];
            }
        }

        void removeAll(CountSet others) {
            for (int p = 0; p < PLANES; p++) {
                planes[p] &= ~others.planes[p];
            }
        }

        /** Adds each sum of a count of one set and a count of the other that is a count itself. */
        void addSums(CountSet some, CountSet others) {
            for (int p = 0; p < PLANES; p++) {
                long plane = some.planes[p];
                for (int bit = 0; bit < PLANE_BITS && plane != 0L; bit++) {
                    if (((plane >>> bit) & 1L) != 0L) {
                        addMoved(others, p, bit);
                    }
                }
            }
        }

        private void addMoved(CountSet others, int plane, int bit) {
            // Too many of letter 1 fall off the end of the shift; too many of letter 0 would get into the
            // next row, so they are masked out before.
            long fitting = FIRST_COLUMN * (0xFF >>> (bit & 7));
            for (int p = 0; p + plane < PLANES; p++) {
                planes[p + plane] |= (others.planes[p] & fitting) << bit;
            }
        }
    }

    /** The counts that a nonterminal has, as far as the rounds have found them. */
    private static final class Nonterminal {
        /** Those of all rounds before this one. */
        final CountSet had = new CountSet();

        /** Those of the round before this one, which are in had too. */
        final CountSet newest = new CountSet();

        private final CountSet found = new CountSet();
        final int[] heights = new int[COUNTS];
        final int[] roots = new int[COUNTS];

        void forget() {
            had.empty();
            newest.empty();
            found.empty();
            Arrays.fill(heights, NEVER);
        }

        /** Takes what a rule makes; rules come in their order, so the first to make a count is the least. */
        void find(CountSet counts, int rule, int round) {
            if (counts.isEmpty()) {
                return;
            }
            for (int count = 0; count < COUNTS; count++) {
                if (counts.holds(count) && heights[count] == NEVER) {
                    heights[count] = round;
                    roots[count] = rule;
                    found.add(count);
                }
            }
        }

        void endRound() {
            newest.become(found);
            had.addAll(found);
            found.empty();
        }
    }

    /**
     * The end of a right side, from one of its nonterminals on: the counts that trees for its nonterminals
     * make together with all letters of the rule, as far as the rounds have found them.
     */
    private static final class End {
        private final CountSet all = new CountSet();
        final CountSet newest = new CountSet();

        /** The round in which a count was found: it is made of trees that are less high than that. */
        final int[] rounds = new int[COUNTS];

        void forget() {
            all.empty();
            newest.empty();
            Arrays.fill(rounds, NEVER);
        }

        /** The end behind the last nonterminal makes just the letters, from the first round on. */
        void growLetters(int letterCount, int round) {
            newest.empty();
            newest.add(letterCount);
            takeNewest(round);
        }

        /** Only sums with something new in them are looked at: the others were found before. */
        void grow(Nonterminal first, End rest, int round) {
            newest.empty();
            newest.addSums(first.newest, rest.all);
            newest.addSums(rest.newest, first.had);
            takeNewest(round);
        }

        private void takeNewest(int round) {
            newest.removeAll(all);
            if (newest.isEmpty()) {
                return;
            }
            all.addAll(newest);
            for (int count = 0; count < COUNTS; count++) {
                if (newest.holds(count)) {
                    rounds[count] = round;
                }
            }
        }
    }

    /** A rule; where its letters stand among its nonterminals makes no difference to any answer. */
    private static final class Rule {
        int left = 0;
        int uses = 0;
        private int letterCount = 0;
        int size = 0;
        final int[] parts = new int[PLACES];
        private final End[] ends = new End[PLACES + 1];

        Rule() {
            for (int i = 0; i <= PLACES; i++) {
                ends[i] = new End();
            }
        }

        void begin(int leftSide) {
            left = leftSide;
            uses = 0;
            letterCount = 0;
            size = 0;
        }

        void append(int symbol) {
            if (symbol >= NONTERMINALS) {
                letterCount += 1 << (3 * (symbol - NONTERMINALS));
            } else if (symbol != NONE && size < PLACES) {
                parts[size] = symbol;
                size++;
            }
        }

        int lettersOf(int letter) {
            return (letterCount >> (3 * letter)) & 7;
        }

        int timesOf(int nonterminal) {
            int sum = 0;
            for (int i = 0; i < size; i++) {
                if (parts[i] == nonterminal) {
                    sum++;
                }
            }
            return sum;
        }

        int nonterminalBits() {
            int bits = 0;
            for (int i = 0; i < size; i++) {
                bits |= 1 << parts[i];
            }
            return bits;
        }

        void forget() {
            for (int i = 0; i <= size; i++) {
                ends[i].forget();
            }
        }

        void grow(Nonterminal[] nonterminals, int round) {
            ends[size].growLetters(letterCount, round);
            for (int i = size - 1; i >= 0; i--) {
                ends[i].grow(nonterminals[parts[i]], ends[i + 1], round);
            }
        }

        CountSet newestCounts() {
            return ends[0].newest;
        }

        /** The first possible counts below a root of this rule, for a count that it can make so high. */
        void split(Nonterminal[] nonterminals, int count, int height, int[] into) {
            int rest = count;
            for (int i = 0; i < size; i++) {
                Nonterminal part = nonterminals[parts[i]];
                int first = 0;
                while (first < rest && !canBegin(first, rest, part, ends[i + 1], height)) {
                    first++;
                }
                into[i] = first;
                rest -= first;
            }
        }

        private static boolean canBegin(int first, int rest, Nonterminal part, End end, int height) {
            return part.heights[first] < height
                    && (first & 7) <= (rest & 7)
                    && (first & 56) <= (rest & 56)
                    && (first & 448) <= (rest & 448)
                    && end.rounds[rest - first] <= height;
        }
    }

    /** A walk through THE tree of a nonterminal and a count, the root first. */
    private static final class Walk {
        final int[] steps = new int[MOST_STEPS];
        final int[] uses = new int[MOST_RULES];
        int size = 0;

        /** The trees that are still to be walked through, the next one last. */
        private final int[] openNonterminals = new int[MOST_STEPS];
        private final int[] openCounts = new int[MOST_STEPS];
        private int open = 0;

        private final int[] below = new int[PLACES];

        /** Whether the tree keeps to the limits; if not, the walk ends where that is seen. */
        boolean through(Nonterminal[] nonterminals, Rule[] rules, int n, int count) {
            size = 0;
            open = 0;
            Arrays.fill(uses, 0);
            openTree(n, count);
            while (open > 0 && size < MOST_STEPS) {
                open--;
                Nonterminal top = nonterminals[openNonterminals[open]];
                int topCount = openCounts[open];
                int root = top.roots[topCount];
                steps[size] = root;
                size++;
                uses[root]++;
                Rule rule = rules[root];
                // Each open tree has a step at least.
                if (uses[root] > MOST_USES || size + open + rule.size > MOST_STEPS) {
                    return false;
                }
                rule.split(nonterminals, topCount, top.heights[topCount], below);
                openBelow(rule);
            }
            return open == 0;
        }

        private void openBelow(Rule rule) {
            for (int i = rule.size - 1; i >= 0; i--) {
                openTree(rule.parts[i], below[i]);
            }
        }

        private void openTree(int n, int count) {
            openNonterminals[open] = n;
            openCounts[open] = count;
            open++;
        }
    }
}
