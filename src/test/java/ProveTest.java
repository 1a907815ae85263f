import java.util.Random;

/** Promise 15: prove. */
public final class ProveTest {
    public static void main(String[] args) {
        treeOfItsOwn();
        treeStays();
        notLoosely();
        asManyNodesAsItTakes();
        costOfTheBest();
        noPlan();
        alwaysSound();
        solvedLoosely();
        notSolved();
        changedSince();
        Check.close();
    }

    /** Two whole amounts: the best costs -4, loosely -9 / 2. */
    private static AmountPlanner planner() {
        AmountPlanner x = new AmountPlanner();
        x.start(2);
        x.limit(2, 2, 0, 0, 9);
        x.cost(0, -1);
        x.cost(1, -1);
        return x;
    }

    private static void treeOfItsOwn() {
        Check.sentence(15, "The planner makes a tree of its own");
        AmountPlanner x = planner();
        x.solve(false);
        Check.due("nothing was told", true, x::prove);
        x.end(0, 0, 0, 0, 0, 0, 0, 0);
        Check.due("a tree that proves nothing was told", true, x::prove);
        for (int node = 0; node < 39; node++) {
            x.fork(node, 3, 20, node + 1, node + 1);
        }
        Check.due("a full tree that proves nothing was told", true, x::prove);
        Check.due("it proves nothing", false, () -> x.sound(-1000000, 1));
    }

    private static void treeStays() {
        Check.sentence(15, "(the TREE stays as it was told;");
        AmountPlanner x = planner();
        x.solve(false);
        Check.due("prove", true, x::prove);
        Check.due("node 0 is NOTHING still", false, () -> x.sound(-1000000, 1));
        for (int node = 1; node < 40; node++) {
            x.fork(0, 0, 0, node, node);
            Check.due("node " + node + " is NOTHING still", false, () -> x.sound(-1000000, 1));
        }
        x.end(0, 2, 1, 0, 0, 0, 0, 0);
        Check.due("prove", true, x::prove);
        Check.due("the END is as told", true, () -> x.sound(-9, 2));
        Check.due("the END is as told", false, () -> x.sound(-4, 1));
        x.fork(0, 0, 0, 1, 39);
        x.end(1, 1, 0, 0, 0, 0, 0, 0);
        x.end(39, 2, 1, 0, 0, 0, 0, 0);
        Check.due("prove", true, x::prove);
        Check.due("the FORK is as told", true, () -> x.sound(-8, 1));
        Check.due("the FORK is as told", false, () -> x.sound(-7, 1));
        for (int node = 1; node < 40; node++) {
            x.end(node, 1, 0, node, 0, 0, 0, 0);
        }
        x.limit(0, 0, 0, 0, -1);
        Check.due("no plan", false, () -> x.solve(false));
        Check.due("prove", true, x::prove);
        for (int node = 1; node < 40; node++) {
            int bound = node - 16;
            x.fork(0, 0, 0, node, node);
            Check.due("node " + node + " is as told", true, () -> x.sound(bound, 1));
            Check.due("node " + node + " is as told", false, () -> x.sound(bound + 1, 1));
        }
        x.drop(1);
        x.solve(false);
        Check.due("prove", true, x::prove);
        Check.due("the plan stays", "-4/1: 0/1 4/1", () -> Check.told(x, 2));
    }

    private static void notLoosely() {
        Check.sentence(15, "not LOOSELY;");
        AmountPlanner x = planner();
        x.solve(true);
        x.solve(false);
        Check.due("for -4, and not for -9 / 2", "true -4", () -> x.prove() + " " + x.total(0));
        x.drop(0);
        x.limit(2, 2, 0, 0, 9);
        x.limit(-2, -2, 0, 0, -9);
        Check.due("loosely there is a plan", true, () -> x.solve(true));
        Check.due("but none that is whole", false, () -> x.solve(false));
        Check.due("and this is proved", true, x::prove);
    }

    /** An even sum is never odd: no END is sound before nearly all amounts have one value. */
    private static void asManyNodesAsItTakes() {
        Check.sentence(15, "of as many nodes as it takes, with fractions 0 or more as w and y)");
        AmountPlanner x = new AmountPlanner();
        x.start(4);
        x.limit(8, 6, 4, 2, 81);
        x.limit(-8, -6, -4, -2, -81);
        Check.due("no plan", false, () -> x.solve(false));
        Check.due("far more than 40", true, x::prove);
        x.drop(1);
        for (int j = 0; j < 4; j++) {
            x.cost(j, 2 * j - 8);
        }
        Check.due("solve", true, () -> x.solve(false));
        Check.due("the nearest is 80", -80, () -> x.total(0));
        Check.due("far more than 40", true, x::prove);
        int[] costs = {-7, -9, -6, -8};
        x.start(4);
        for (int j = 0; j < 4; j++) {
            x.cost(j, costs[j]);
        }
        x.limit(9, 8, 7, 6, 50);
        x.limit(3, 9, 1, 5, 40);
        x.limit(7, 2, 9, 8, 61);
        for (int fractions = 0; fractions < 16; fractions++) {
            for (int j = 0; j < 4; j++) {
                x.amount(j, 0, 8, (fractions >> j & 1) == 0);
            }
            Check.due("solve", true, () -> x.solve(false));
            Check.due("w and y that are not whole", true, x::prove);
        }
    }

    /** What prove() says there is, can be told, too: see ValueProblem. */
    private static void costOfTheBest() {
        Check.sentence(15, "for the COST of the BEST plan,");
        Random random = new Random(11);
        for (int k = 0; k < 400; k++) {
            ValueProblem problem = new ValueProblem(random, k % 7, 0, 29);
            AmountPlanner x = problem.x;
            Check.due("solve", true, () -> x.solve(false));
            Check.due("prove", true, x::prove);
            int best = x.total(0);
            problem.tellTree(best);
            Check.due("a told tree proves " + best, true, () -> x.sound(best, 1));
            Check.due("and no more", false, () -> x.sound(best * 1000 + 1, 1000));
            Check.due("prove", true, x::prove);
        }
    }

    /** Two whole amounts from 0 to 3, and a tree that forks until each of them has one value. */
    private static final class ValueProblem {
        private static final int COST_NODE = 38;
        private static final int NO_PROOF = 39;

        final AmountPlanner x = new AmountPlanner();
        private final int[] costs = new int[2];
        private final int[][] limits;

        ValueProblem(Random random, int size, int leastBound, int greatestBound) {
            limits = new int[size][];
            x.start(2);
            for (int j = 0; j < 2; j++) {
                costs[j] = random.nextInt(19) - 9;
                x.amount(j, 0, 3, true);
                x.cost(j, costs[j]);
            }
            for (int i = 0; i < size; i++) {
                int bound = leastBound + random.nextInt(greatestBound - leastBound + 1);
                limits[i] = new int[] {random.nextInt(19) - 9, random.nextInt(19) - 9, bound};
                x.limit(limits[i][0], limits[i][1], 0, 0, bound);
            }
        }

        /** 15 FORKS; an END for each limit, of w 0, and one for the cost; NO_PROOF is NOTHING. */
        void tellTree(int bound) {
            for (int i = 0; i < 6; i++) {
                int[] y = new int[6];
                y[i] = 1;
                x.end(limitNode(i), 0, y[0], y[1], y[2], y[3], y[4], y[5]);
            }
            x.end(COST_NODE, 1, 0, 0, 0, 0, 0, 0);
            // Nodes 0 to 2 part amount 0, and from 3 on three each part amount 1 for one value of it.
            for (int a = 0; a < 3; a++) {
                x.fork(a, 0, a, 3 + 3 * a, a < 2 ? a + 1 : 12);
            }
            for (int a = 0; a < 4; a++) {
                for (int b = 0; b < 3; b++) {
                    int node = 3 + 3 * a + b;
                    x.fork(node, 1, b, endOf(a, b, bound), b < 2 ? node + 1 : endOf(a, 3, bound));
                }
            }
        }

        private static int limitNode(int i) {
            return 32 + i;
        }

        private int endOf(int a, int b, int bound) {
            for (int i = 0; i < limits.length; i++) {
                if (limits[i][0] * a + limits[i][1] * b > limits[i][2]) {
                    return limitNode(i);
                }
            }
            return costs[0] * a + costs[1] * b >= bound ? COST_NODE : NO_PROOF;
        }
    }

    private static void noPlan() {
        Check.sentence(15, "or, if there is none, with ENDS of w 0 alone:");
        AmountPlanner x = new AmountPlanner();
        x.start(3);
        x.amount(1, -20, 20, false);
        x.limit(1, 1, 1, 0, -20);
        Check.due("a plan", true, () -> x.solve(false));
        Check.due("prove", true, x::prove);
        x.drop(0);
        x.limit(1, 1, 1, 0, -21);
        Check.due("no plan", false, () -> x.solve(false));
        Check.due("prove", true, x::prove);
        x.cost(0, -9);
        x.cost(1, 9);
        Check.due("no plan, with costs", false, () -> x.solve(false));
        Check.due("prove", true, x::prove);
        x.drop(0);
        x.limit(0, 0, 0, 0, -1);
        Check.due("a limit of nothing", false, () -> x.solve(false));
        Check.due("prove", true, x::prove);
        AmountPlanner one = new AmountPlanner();
        one.limit(1, 0, 0, 0, -1);
        Check.due("one value, no plan", false, () -> one.solve(false));
        Check.due("prove", true, one::prove);
        noPlanOfTwo();
    }

    private static void noPlanOfTwo() {
        Random random = new Random(12);
        int without = 0;
        for (int k = 0; k < 400; k++) {
            ValueProblem problem = new ValueProblem(random, 1 + k % 6, -20, 9);
            AmountPlanner x = problem.x;
            if (!x.solve(false)) {
                without++;
                Check.due("prove", true, x::prove);
                problem.tellTree(1000);
                x.clear(ValueProblem.COST_NODE);
                Check.due("a told tree with ENDS of w 0 alone", true, () -> x.sound(1000000, 1));
                Check.due("prove", true, x::prove);
            }
        }
        int count = without;
        Check.due("there were some without a plan", true, () -> count > 100);
    }

    private static void alwaysSound() {
        Check.sentence(15, "whether it is SOUND. (It always is.)");
        AmountPlanner fresh = new AmountPlanner();
        fresh.solve(false);
        Check.due("of a new object", true, fresh::prove);
        Check.due("a second time", true, fresh::prove);
        for (int n = 1; n <= 4; n++) {
            for (int wholes = 0; wholes < 1 << n; wholes++) {
                AmountPlanner x = new AmountPlanner();
                x.start(n);
                for (int j = 0; j < n; j++) {
                    boolean whole = (wholes >> j & 1) != 0;
                    x.amount(j, whole ? -4 : -20, whole ? 4 : 20, whole);
                    x.cost(j, 9 - 5 * j);
                }
                for (int i = 0; i <= 6; i++) {
                    boolean plan = x.solve(false);
                    Check.due(n + " amounts, " + i + " limits, a plan: " + plan, true, x::prove);
                    if (i < 6) {
                        x.limit(i - 7, n > 1 ? 5 - 2 * i : 0, n > 2 ? 3 : 0, n > 3 ? i - 2 : 0, 7 - 4 * i);
                    }
                }
            }
        }
    }

    private static void solvedLoosely() {
        Check.sentence(15, "IllegalStateException: the latest solve() was LOOSELY,");
        AmountPlanner x = planner();
        x.solve(true);
        Check.badState("loosely", x::prove);
        Check.badState("loosely, again", x::prove);
        Check.due("the plan stays", "-9/2: 0/1 9/2", () -> Check.told(x, 2));
        x.solve(false);
        Check.due("not loosely", true, x::prove);
        x.solve(true);
        Check.badState("the latest was loosely", x::prove);
        x.amount(0, 0, 8, false);
        x.amount(1, 0, 8, false);
        x.solve(true);
        Check.badState("loosely, though no amount is WHOLE", x::prove);
        x.limit(0, 0, 0, 0, -1);
        x.solve(true);
        Check.badState("loosely, without a plan", x::prove);
        x.solve(false);
        Check.due("not loosely, without a plan", true, x::prove);
    }

    private static void notSolved() {
        Check.sentence(15, "or there was none,");
        AmountPlanner fresh = new AmountPlanner();
        Check.badState("of a new object", fresh::prove);
        AmountPlanner x = planner();
        Check.badState("not solved yet", x::prove);
        x.keeps(0, 0, 0, 0, 1);
        x.end(0, 1, 0, 0, 0, 0, 0, 0);
        x.sound(0, 1);
        Check.badState("not solved yet", x::prove);
        x.solve(false);
        Check.due("solved", true, x::prove);
    }

    private static void changedSince() {
        Check.sentence(15, "or the problem was changed since.");
        AmountPlanner x = new AmountPlanner();
        Check.Action[] changes = {() -> x.amount(0, 0, 0, true), () -> x.cost(0, 0),
            () -> x.limit(0, 0, 0, 0, 0), () -> x.drop(0), () -> x.start(1)};
        for (Check.Action change : changes) {
            x.solve(false);
            Check.due("solved", true, x::prove);
            Check.passes("a change", change);
            Check.badState("changed since", x::prove);
            Check.badState("changed since", x::prove);
        }
        x.solve(false);
        Check.badIndex("refused", () -> x.amount(1, 0, 0, true));
        Check.badArgument("refused", () -> x.amount(0, 1, 0, true));
        Check.badIndex("refused", () -> x.cost(1, 0));
        Check.badArgument("refused", () -> x.cost(0, 10));
        Check.badArgument("refused", () -> x.limit(10, 0, 0, 0, 0));
        Check.badIndex("refused", () -> x.drop(0));
        Check.badArgument("refused", () -> x.start(0));
        x.fork(0, 0, 0, 1, 1);
        x.end(0, 1, 0, 0, 0, 0, 0, 0);
        x.clear(0);
        Check.due("refused ones and the tree change no problem", true, x::prove);
    }
}
