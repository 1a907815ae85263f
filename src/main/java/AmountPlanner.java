/**
 * A planner for a few amounts, some of them whole, within bounds and limits: the least cost, the
 * first of the plans that have it, and trees that prove that there is none cheaper.
 */
public final class AmountPlanner {
    private static final int AMOUNTS = 4;
    private static final int LIMITS = 6;
    private static final int NODES = 40;

    /** The numbers of an END: w, and a y for each limit. */
    private static final int END_NUMBERS = 1 + LIMITS;

    private final Problem problem = new Problem();
    private final Minors minors = new Minors();
    private final Search search = new Search();
    private final Tree tree = new Tree();
    private final Proof proof = new Proof();
    private final Box box = new Box();
    private final int[] told = new int[AMOUNTS];
    private boolean solved = false;
    private boolean solvedLoosely = false;

    public AmountPlanner() {
        problem.begin(1, 0);
    }

    public void start(int n) throws IllegalArgumentException {
        if (n < 1 || n > AMOUNTS) {
            throw new IllegalArgumentException("there are 1 to 4 amounts");
        }
        problem.begin(n, Problem.WIDEST_WHOLE);
        solved = false;
    }

    public void amount(int j, int least, int most, boolean whole)
            throws IndexOutOfBoundsException, IllegalArgumentException {
        checkAmount(j);
        if (!isWithin(least, Problem.FARTHEST) || !isWithin(most, Problem.FARTHEST) || least > most) {
            throw new IllegalArgumentException("a least and a most are -20 to 20, in this order");
        }
        if (whole && most - least > Problem.WIDEST_WHOLE) {
            throw new IllegalArgumentException("a whole amount is at most 8 wide");
        }
        problem.leasts[j] = least;
        problem.mosts[j] = most;
        problem.wholes[j] = whole;
        solved = false;
    }

    public void cost(int j, int c) throws IndexOutOfBoundsException, IllegalArgumentException {
        checkAmount(j);
        if (!isWithin(c, Problem.HEAVIEST)) {
            throw new IllegalArgumentException("a cost is -9 to 9");
        }
        problem.costs[j] = c;
        solved = false;
    }

    public int limit(int a, int b, int c, int d, int bound)
            throws IllegalArgumentException, IllegalStateException {
        if (!isWeight(0, a) || !isWeight(1, b) || !isWeight(2, c) || !isWeight(3, d)) {
            throw new IllegalArgumentException("a weight is -9 to 9, and 0 where there is no amount");
        }
        if (!isWithin(bound, Problem.GREATEST_BOUND)) {
            throw new IllegalArgumentException("a bound is -99 to 99");
        }
        if (problem.limits >= LIMITS) {
            throw new IllegalStateException("there are 6 limits");
        }
        tell(a, b, c, d);
        problem.addLimit(told, bound);
        solved = false;
        return problem.limits - 1;
    }

    public int drop(int i) throws IndexOutOfBoundsException {
        if (i < 0 || i >= problem.limits) {
            throw new IndexOutOfBoundsException("there is no such limit");
        }
        problem.removeLimit(i);
        solved = false;
        return problem.limits;
    }

    public boolean solve(boolean loosely) {
        minors.fill(problem);
        search.look(problem, minors, loosely);
        solved = true;
        solvedLoosely = loosely;
        return search.found;
    }

    public int total(int which) throws IllegalArgumentException, IllegalStateException {
        checkWhich(which);
        checkPlan();
        return part(search.bestCost, search.bestDivisor, which);
    }

    public int plan(int j, int which)
            throws IndexOutOfBoundsException, IllegalArgumentException, IllegalStateException {
        checkAmount(j);
        checkWhich(which);
        checkPlan();
        return part(search.best[j], search.bestDivisor, which);
    }

    public boolean keeps(int a, int b, int c, int d, int q) throws IllegalArgumentException {
        if (q < 1 || q > 1000) {
            throw new IllegalArgumentException("a divisor is 1 to 1000");
        }
        if (!isWithin(a, 20000) || !isWithin(b, 20000) || !isWithin(c, 20000) || !isWithin(d, 20000)) {
            throw new IllegalArgumentException("a number is -20000 to 20000");
        }
        tell(a, b, c, d);
        return problem.isWholeWhereDue(told, q) && problem.isKept(told, q);
    }

    public void fork(int node, int j, int v, int first, int second)
            throws IndexOutOfBoundsException, IllegalArgumentException {
        checkNode(node);
        checkNode(first);
        checkNode(second);
        if (first <= node || second <= node) {
            throw new IndexOutOfBoundsException("a fork's nodes have greater numbers");
        }
        if (j < 0 || j >= AMOUNTS || !isWithin(v, Problem.FARTHEST)) {
            throw new IllegalArgumentException("a fork's amount is 0 to 3, its number -20 to 20");
        }
        tree.setFork(node, j, v, first, second);
    }

    public void end(int node, int w, int a, int b, int c, int d, int e, int f)
            throws IndexOutOfBoundsException, IllegalArgumentException {
        checkNode(node);
        if (!isMultiplier(w) || !isMultiplier(a) || !isMultiplier(b) || !isMultiplier(c)
                || !isMultiplier(d) || !isMultiplier(e) || !isMultiplier(f)) {
            throw new IllegalArgumentException("an end's numbers are 0 to 1000000");
        }
        tree.setEnd(node, w);
        tree.setMultipliers(node, 0, a, b, c);
        tree.setMultipliers(node, 3, d, e, f);
    }

    public void clear(int node) throws IndexOutOfBoundsException {
        checkNode(node);
        tree.setNothing(node);
    }

    public boolean sound(int p, int q) throws IllegalArgumentException {
        if (!isWithin(p, 1000000) || q < 1 || q > 1000000) {
            throw new IllegalArgumentException("a bound is -1000000 to 1000000 by 1 to 1000000");
        }
        box.open(problem, p, q);
        return tree.holds(problem, box);
    }

    public boolean prove() throws IllegalStateException {
        if (!solved || solvedLoosely) {
            throw new IllegalStateException("the problem was not solved, or loosely");
        }
        box.open(problem, search.bestCost, search.bestDivisor);
        // Nothing was changed since solve(), so the minors are still those of the problem.
        proof.gather(problem, minors, search.found);
        return proof.holds(problem, box);
    }

    private void checkAmount(int j) {
        if (j < 0 || j >= problem.amounts) {
            throw new IndexOutOfBoundsException("there is no such amount");
        }
    }

    private static void checkNode(int node) {
        if (node < 0 || node >= NODES) {
            throw new IndexOutOfBoundsException("there is no such node");
        }
    }

    private static void checkWhich(int which) {
        if (which < 0 || which > 1) {
            throw new IllegalArgumentException("0 asks for p, 1 for q");
        }
    }

    private void checkPlan() {
        if (!solved || !search.found) {
            throw new IllegalStateException("there is no plan to tell of");
        }
    }

    private static boolean isWithin(int x, int farthest) {
        return x >= -farthest && x <= farthest;
    }

    private static boolean isMultiplier(int x) {
        return x >= 0 && x <= 1000000;
    }

    private boolean isWeight(int j, int x) {
        return j < problem.amounts ? isWithin(x, Problem.HEAVIEST) : x == 0;
    }

    private void tell(int a, int b, int c, int d) {
        told[0] = a;
        told[1] = b;
        told[2] = c;
        told[3] = d;
    }

    /** The p or the q of a fraction without a common divisor. */
    private static int part(int p, int q, int which) {
        int common = commonDivisor(p < 0 ? -p : p, q);
        if (common < 1) {
            return 0;
        }
        return (which == 0 ? p : q) / common;
    }

    private static int commonDivisor(int a, int b) {
        int x = a;
        int y = b;
        // Two rounds halve the greater one at least, so 64 are enough for any int.
        for (int round = 0; round < 64 && y != 0; round++) {
            int rest = x % y;
            x = y;
            y = rest;
        }
        return x;
    }

    /** The amounts and the limits. */
    private static final class Problem {
        static final int FARTHEST = 20;
        static final int WIDEST_WHOLE = 8;
        static final int HEAVIEST = 9;
        static final int GREATEST_BOUND = 99;

        int amounts = 0;
        int limits = 0;
        final int[] leasts = new int[AMOUNTS];
        final int[] mosts = new int[AMOUNTS];
        final boolean[] wholes = new boolean[AMOUNTS];
        final int[] costs = new int[AMOUNTS];
        final int[][] weights = new int[LIMITS][AMOUNTS];
        final int[] bounds = new int[LIMITS];

        void begin(int n, int most) {
            amounts = n;
            limits = 0;
            for (int j = 0; j < AMOUNTS; j++) {
                leasts[j] = 0;
                mosts[j] = most;
                wholes[j] = true;
                costs[j] = 0;
            }
        }

        void addLimit(int[] row, int bound) {
            setLimit(limits, row, bound);
            limits++;
        }

        void removeLimit(int i) {
            for (int k = i; k + 1 < limits; k++) {
                setLimit(k, weights[k + 1], bounds[k + 1]);
            }
            limits--;
        }

        private void setLimit(int i, int[] row, int bound) {
            for (int j = 0; j < AMOUNTS; j++) {
                weights[i][j] = row[j];
            }
            bounds[i] = bound;
        }

        /** Whether the whole amounts among x / q are whole. */
        boolean isWholeWhereDue(int[] x, int q) {
            for (int j = 0; j < amounts; j++) {
                if (wholes[j] && q != 0 && x[j] % q != 0) {
                    return false;
                }
            }
            return true;
        }

        /** Whether x / q keeps the leasts, the mosts and the limits. */
        boolean isKept(int[] x, int q) {
            for (int j = 0; j < amounts; j++) {
                if (x[j] < (long) leasts[j] * q || x[j] > (long) mosts[j] * q) {
                    return false;
                }
            }
            for (int i = 0; i < limits; i++) {
                if (weigh(weights[i], x) > (long) bounds[i] * q) {
                    return false;
                }
            }
            return true;
        }

        long weigh(int[] row, int[] x) {
            long sum = 0;
            for (int j = 0; j < amounts; j++) {
                sum += (long) row[j] * x[j];
            }
            return sum;
        }

        int leastCost(int j) {
            return costs[j] >= 0 ? costs[j] * leasts[j] : costs[j] * mosts[j];
        }
    }

    /**
     * All determinants of the table that has a row for each amount, a column for each limit's
     * weights and a last one for the costs. Corners of the limits (Cramer's rule) and ENDS of a
     * proof are both made of them, so no division is ever needed. None is above 16 * 9^4.
     */
    private static final class Minors {
        static final int COLUMNS = LIMITS + 1;
        static final int COST_COLUMN = LIMITS;

        private final int[] values = new int[1 << (AMOUNTS + COLUMNS)];

        void fill(Problem problem) {
            int there = columnsOf(problem);
            values[0] = 1;
            for (int rows = 1; rows < 1 << problem.amounts; rows++) {
                int size = Integer.bitCount(rows);
                for (int columns = 1; columns < 1 << COLUMNS; columns++) {
                    if ((columns & ~there) == 0 && Integer.bitCount(columns) == size) {
                        values[rows << COLUMNS | columns] = expand(problem, rows, columns);
                    }
                }
            }
        }

        static int columnsOf(Problem problem) {
            return 1 << COST_COLUMN | (1 << problem.limits) - 1;
        }

        /** The determinant of a set of rows and a set of as many columns that are there. */
        int of(int rows, int columns) {
            return values[rows << COLUMNS | columns];
        }

        /** What the entry at a row and a column is multiplied by in such a determinant. */
        int cofactor(int rows, int columns, int row, int column) {
            int place = Integer.bitCount(rows & (1 << row) - 1)
                    + Integer.bitCount(columns & (1 << column) - 1);
            int minor = of(rows ^ 1 << row, columns ^ 1 << column);
            return (place & 1) == 0 ? minor : -minor;
        }

        private int expand(Problem problem, int rows, int columns) {
            int row = Integer.numberOfTrailingZeros(rows);
            int sum = 0;
            for (int column = 0; column < COLUMNS; column++) {
                if ((columns >> column & 1) != 0) {
                    int entry = column == COST_COLUMN ? problem.costs[row] : problem.weights[column][row];
                    sum += entry * cofactor(rows, columns, row, column);
                }
            }
            return sum;
        }
    }

    /**
     * The search for the best plan. With the whole amounts set, the best plan is a corner: some of
     * the other amounts stand at their least or most, and the rest are free, and just as many
     * limits hold as equations and tell these.
     */
    private static final class Search {
        boolean found = false;
        final int[] best = new int[AMOUNTS];
        int bestDivisor = 1;
        int bestCost = 0;

        private boolean loose = false;
        private final int[] settled = new int[AMOUNTS];
        private final int[] rests = new int[LIMITS];
        private final int[] trial = new int[AMOUNTS];

        void look(Problem problem, Minors minors, boolean loosely) {
            found = false;
            bestDivisor = 1;
            bestCost = 0;
            loose = loosely;
            int leastCost = 0;
            for (int j = 0; j < problem.amounts; j++) {
                settled[j] = problem.leasts[j];
                leastCost += problem.leastCost(j);
            }
            settle(problem, minors, 0, 0, leastCost);
        }

        /**
         * Goes on with amount j. What is free or not settled yet stands at its least, so no plan
         * that comes of it is better than leastCost and the settled amounts.
         */
        private void settle(Problem problem, Minors minors, int j, int free, int leastCost) {
            if (!isBetter(problem, settled, leastCost, 1) || !canBeKept(problem, j, free)) {
                return;
            }
            if (j >= problem.amounts) {
                tryCorners(problem, minors, free);
                return;
            }
            boolean whole = problem.wholes[j] && !loose;
            int least = problem.leasts[j];
            int width = problem.mosts[j] - least;
            int others = leastCost - problem.leastCost(j);
            // The cheapest value comes first: the sooner a good plan is found, the less is tried.
            for (int k = 0; k <= width; k++) {
                if (whole || k == 0 || k == width) {
                    settled[j] = least + (problem.costs[j] < 0 ? width - k : k);
                    settle(problem, minors, j + 1, free, others + problem.costs[j] * settled[j]);
                }
            }
            settled[j] = least;
            if (!whole && width > 0) {
                settle(problem, minors, j + 1, free | 1 << j, leastCost);
            }
        }

        /** Whether each limit, by itself, can be kept with the amounts settled before j. */
        private boolean canBeKept(Problem problem, int j, int free) {
            for (int i = 0; i < problem.limits; i++) {
                int sum = 0;
                for (int k = 0; k < problem.amounts; k++) {
                    int weight = problem.weights[i][k];
                    boolean open = k >= j || (free >> k & 1) != 0;
                    sum += weight * (open && weight < 0 ? problem.mosts[k] : settled[k]);
                }
                if (sum > problem.bounds[i]) {
                    return false;
                }
            }
            return true;
        }

        private void tryCorners(Problem problem, Minors minors, int free) {
            if (free == 0) {
                tryCorner(problem, minors, 0, 0);
                return;
            }
            setRests(problem, free);
            int size = Integer.bitCount(free);
            for (int tight = 1; tight < 1 << problem.limits; tight++) {
                if (Integer.bitCount(tight) == size) {
                    tryCorner(problem, minors, free, tight);
                }
            }
        }

        /** What each limit leaves for the free amounts. */
        private void setRests(Problem problem, int free) {
            for (int j = 0; j < problem.amounts; j++) {
                trial[j] = (free >> j & 1) != 0 ? 0 : settled[j];
            }
            for (int i = 0; i < problem.limits; i++) {
                rests[i] = problem.bounds[i] - (int) problem.weigh(problem.weights[i], trial);
            }
        }

        private void tryCorner(Problem problem, Minors minors, int free, int tight) {
            int determinant = minors.of(free, tight);
            if (determinant == 0) {
                return;
            }
            int divisor = determinant < 0 ? -determinant : determinant;
            int sign = determinant < 0 ? -1 : 1;
            for (int j = 0; j < problem.amounts; j++) {
                trial[j] = (free >> j & 1) != 0
                        ? sign * freeAmount(minors, free, tight, j)
                        : settled[j] * divisor;
            }
            int trialCost = (int) problem.weigh(problem.costs, trial);
            if (isBetter(problem, trial, trialCost, divisor) && problem.isKept(trial, divisor)) {
                take(trialCost, divisor);
            }
        }

        private int freeAmount(Minors minors, int free, int tight, int j) {
            int sum = 0;
            for (int i = 0; i < LIMITS; i++) {
                if ((tight >> i & 1) != 0) {
                    sum += rests[i] * minors.cofactor(free, tight, j, i);
                }
            }
            return sum;
        }

        /** Whether x / divisor, which costs xCost / divisor, comes before what was found. */
        private boolean isBetter(Problem problem, int[] x, int xCost, int divisor) {
            if (!found) {
                return true;
            }
            long less = (long) bestCost * divisor - (long) xCost * bestDivisor;
            for (int j = 0; j < problem.amounts && less == 0; j++) {
                less = (long) best[j] * divisor - (long) x[j] * bestDivisor;
            }
            return less > 0;
        }

        private void take(int trialCost, int divisor) {
            found = true;
            bestCost = trialCost;
            bestDivisor = divisor;
            for (int j = 0; j < AMOUNTS; j++) {
                best[j] = trial[j];
            }
        }
    }

    /** The leasts and mosts at a node, and the p / q that the tree is looked at for. */
    private static final class Box {
        /** An END as it counts for the problem: w, an e for each amount, the y times the bounds. */
        static final int ROW = 2 + AMOUNTS;

        final int[] leasts = new int[AMOUNTS];
        final int[] mosts = new int[AMOUNTS];
        private int amounts = 0;
        private long p = 0;
        private long q = 1;

        void open(Problem problem, int boundP, int boundQ) {
            amounts = problem.amounts;
            p = boundP;
            q = boundQ;
            for (int j = 0; j < AMOUNTS; j++) {
                leasts[j] = problem.leasts[j];
                mosts[j] = problem.mosts[j];
            }
        }

        /** Writes the END with the numbers w and y, which stand at from, as a row. */
        static void lay(Problem problem, int[] numbers, int from, long[] rows, int row) {
            long w = numbers[from];
            rows[row] = w;
            for (int j = 0; j < AMOUNTS; j++) {
                long e = w * problem.costs[j];
                for (int i = 0; i < problem.limits; i++) {
                    e += (long) numbers[from + 1 + i] * problem.weights[i][j];
                }
                rows[row + 1 + j] = e;
            }
            long bounds = 0;
            for (int i = 0; i < problem.limits; i++) {
                bounds += (long) numbers[from + 1 + i] * problem.bounds[i];
            }
            rows[row + 1 + AMOUNTS] = bounds;
        }

        /** Whether the END of a row is sound here. */
        boolean isEndedBy(long[] rows, int row) {
            long w = rows[row];
            long s = -rows[row + 1 + AMOUNTS];
            for (int j = 0; j < amounts; j++) {
                long e = rows[row + 1 + j];
                s += e * (e >= 0 ? leasts[j] : mosts[j]);
            }
            return w == 0 ? s > 0 : q * s >= w * p;
        }
    }

    /** The tree that is told node by node. */
    private static final class Tree {
        private static final int NOTHING = 0;
        private static final int FORK = 1;
        private static final int END = 2;

        private final int[] kinds = new int[NODES];
        private final int[] forkAmounts = new int[NODES];
        private final int[] forkValues = new int[NODES];
        private final int[] firsts = new int[NODES];
        private final int[] seconds = new int[NODES];
        private final int[] ends = new int[NODES * END_NUMBERS];
        private final long[] row = new long[Box.ROW];

        void setNothing(int node) {
            kinds[node] = NOTHING;
        }

        void setFork(int node, int j, int v, int first, int second) {
            kinds[node] = FORK;
            forkAmounts[node] = j;
            forkValues[node] = v;
            firsts[node] = first;
            seconds[node] = second;
        }

        void setEnd(int node, int w) {
            kinds[node] = END;
            ends[node * END_NUMBERS] = w;
        }

        /** Three y of an END, from the limit i on. */
        void setMultipliers(int node, int i, int a, int b, int c) {
            int at = node * END_NUMBERS + 1 + i;
            ends[at] = a;
            ends[at + 1] = b;
            ends[at + 2] = c;
        }

        boolean holds(Problem problem, Box box) {
            return isSoundAt(problem, box, 0, 0);
        }

        /** Whether a node is sound in the box. A fork names greater nodes, so depth stays low. */
        private boolean isSoundAt(Problem problem, Box box, int node, int depth) {
            if (depth >= NODES || kinds[node] == NOTHING) {
                return false;
            }
            if (kinds[node] == END) {
                Box.lay(problem, ends, node * END_NUMBERS, row, 0);
                return box.isEndedBy(row, 0);
            }
            int j = forkAmounts[node];
            int v = forkValues[node];
            int least = box.leasts[j];
            int most = box.mosts[j];
            if (j >= problem.amounts || !problem.wholes[j] || v < least || v >= most) {
                return false;
            }
            box.mosts[j] = v;
            boolean first = isSoundAt(problem, box, firsts[node], depth + 1);
            box.mosts[j] = most;
            if (!first) {
                return false;
            }
            box.leasts[j] = v + 1;
            boolean second = isSoundAt(problem, box, seconds[node], depth + 1);
            box.leasts[j] = least;
            return second;
        }
    }

    /**
     * The planner's own tree. Its nodes are made as they are looked at, and not kept. The ENDS that
     * it chooses from are the corners of all ENDS: some e are 0, and just one more of w and the y
     * than these are not; where any END is sound, one of these is.
     */
    private static final class Proof {
        /** Sets of rows and of columns, one column more than rows: 11 over 5. */
        private static final int MOST_ENDS = 462;

        /** Each fork takes a value at least from one of four amounts with nine at most. */
        private static final int DEEPEST = AMOUNTS * Problem.WIDEST_WHOLE;

        private int ends = 0;
        private final int[] numbers = new int[END_NUMBERS];
        private final long[] rows = new long[MOST_ENDS * Box.ROW];

        /** Makes the ENDS, those of w 0 alone if there is no plan. */
        void gather(Problem problem, Minors minors, boolean withCost) {
            ends = 0;
            int there = Minors.columnsOf(problem);
            if (!withCost) {
                there ^= 1 << Minors.COST_COLUMN;
            }
            for (int zeros = 0; zeros < 1 << problem.amounts; zeros++) {
                int size = Integer.bitCount(zeros) + 1;
                for (int columns = 1; columns < 1 << Minors.COLUMNS; columns++) {
                    if ((columns & ~there) == 0 && Integer.bitCount(columns) == size
                            && setNumbers(minors, zeros, columns) && ends < MOST_ENDS) {
                        Box.lay(problem, numbers, 0, rows, ends * Box.ROW);
                        ends++;
                    }
                }
            }
        }

        /** The w and y of the columns that make e 0 for the amounts: whether none is below 0. */
        private boolean setNumbers(Minors minors, int zeros, int columns) {
            int sign = 1;
            int lowest = 0;
            int highest = 0;
            for (int column = 0; column < Minors.COLUMNS; column++) {
                int number = 0;
                if ((columns >> column & 1) != 0) {
                    number = sign * minors.of(zeros, columns ^ 1 << column);
                    sign = -sign;
                }
                numbers[column == Minors.COST_COLUMN ? 0 : column + 1] = number;
                lowest = Math.min(lowest, number);
                highest = Math.max(highest, number);
            }
            if (highest == 0) {
                turnNumbers();
            }
            return lowest < 0 ? highest == 0 : highest > 0;
        }

        private void turnNumbers() {
            for (int k = 0; k < END_NUMBERS; k++) {
                numbers[k] = -numbers[k];
            }
        }

        boolean holds(Problem problem, Box box) {
            return isSoundIn(problem, box, 0);
        }

        /** Makes an END for the box, or else a FORK: whether what is made is sound. */
        private boolean isSoundIn(Problem problem, Box box, int depth) {
            if (hasEnd(box)) {
                return true;
            }
            int j = widest(problem, box);
            if (j < 0 || depth >= DEEPEST) {
                return false;
            }
            int least = box.leasts[j];
            int most = box.mosts[j];
            int v = Math.floorDiv(least + most, 2);
            box.mosts[j] = v;
            boolean first = isSoundIn(problem, box, depth + 1);
            box.mosts[j] = most;
            if (!first) {
                return false;
            }
            box.leasts[j] = v + 1;
            boolean second = isSoundIn(problem, box, depth + 1);
            box.leasts[j] = least;
            return second;
        }

        private boolean hasEnd(Box box) {
            for (int end = 0; end < ends; end++) {
                if (box.isEndedBy(rows, end * Box.ROW)) {
                    return true;
                }
            }
            return false;
        }

        /** The whole amount with the most values, or -1 if each has one value alone. */
        private static int widest(Problem problem, Box box) {
            int widest = -1;
            int width = 0;
            for (int j = 0; j < problem.amounts; j++) {
                if (problem.wholes[j] && box.mosts[j] - box.leasts[j] > width) {
                    widest = j;
                    width = box.mosts[j] - box.leasts[j];
                }
            }
            return widest;
        }
    }
}
