/** 'Terms': what a tree and its nodes are, and when they are sound. */
public final class TermsTreeTest {
    public static void main(String[] args) {
        fortyNodes();
        nothingAtFirst();
        aFork();
        anEnd();
        nodeZeroWithTheProblem();
        forkOfAnAmountThatIsThere();
        forkOfAWholeAmount();
        forkNotBelowTheLeast();
        forkBelowTheMost();
        firstNode();
        secondNode();
        sumsOfAnEnd();
        sumOverTheAmounts();
        leastOrMost();
        lessTheBounds();
        endWithoutW();
        endWithW();
        nothingIsNot();
        noPlanCostsLess();
        Check.close();
    }

    private static AmountPlanner planner(int n) {
        AmountPlanner x = new AmountPlanner();
        x.start(n);
        return x;
    }

    /** An END that proves what the leasts and mosts alone prove. */
    private static void plainEnd(AmountPlanner x, int node) {
        x.end(node, 1, 0, 0, 0, 0, 0, 0);
    }

    /** The tree is sound for a whole bound, and for nothing above. */
    private static void provesJust(String what, int bound, AmountPlanner x) {
        Check.due(what + " proves " + bound, true, () -> x.sound(bound, 1));
        Check.due(what + " proves no more than " + bound, false, () -> x.sound(bound * 1000 + 1, 1000));
    }

    private static void fortyNodes() {
        Check.sentence(Check.TERMS, "A TREE has NODES 0 .. 39.");
        AmountPlanner x = planner(1);
        for (int node : new int[] {-1, 40}) {
            Check.badIndex("end " + node, () -> x.end(node, 1, 0, 0, 0, 0, 0, 0));
            Check.badIndex("clear " + node, () -> x.clear(node));
            Check.badIndex("fork " + node, () -> x.fork(node, 0, 0, 1, 1));
            Check.badIndex("fork to " + node, () -> x.fork(0, 0, 0, node, node));
        }
        // Each of the forty stands on its own: its y tells one from another.
        x.limit(0, 0, 0, 0, -1);
        for (int node = 0; node < 40; node++) {
            x.end(node, 1, node, 0, 0, 0, 0, 0);
        }
        provesJust("node 0", 0, x);
        for (int node = 1; node < 40; node++) {
            x.fork(0, 0, 3, node, node);
            provesJust("node " + node, node, x);
        }
    }

    private static void nothingAtFirst() {
        Check.sentence(Check.TERMS, "A node is NOTHING (at first),");
        AmountPlanner x = planner(1);
        Check.due("node 0", false, () -> x.sound(-1000000, 1));
        for (int node = 1; node < 40; node++) {
            x.fork(0, 0, 3, node, node);
            Check.due("node " + node, false, () -> x.sound(-1000000, 1));
        }
    }

    private static void aFork() {
        Check.sentence(Check.TERMS, "a FORK (a WHOLE amount, a whole number v, two nodes with greater numbers),");
        AmountPlanner x = planner(2);
        x.cost(1, 1);
        x.limit(0, 0, 0, 0, -1);
        x.fork(0, 1, 3, 7, 9);
        x.end(7, 1, 1, 0, 0, 0, 0, 0);
        x.end(9, 1, 0, 0, 0, 0, 0, 0);
        provesJust("0 + 1, or 4", 1, x);
        x.end(7, 1, 5, 0, 0, 0, 0, 0);
        provesJust("0 + 5, or 4", 4, x);
        x.fork(0, 1, 2, 7, 9);
        provesJust("0 + 5, or 3", 3, x);
        x.fork(0, 0, 2, 7, 9);
        provesJust("0 + 5, or 0", 0, x);
        for (int node = 0; node < 40; node++) {
            int at = node;
            Check.badIndex("no node that is not greater", () -> x.fork(at, 0, 2, at, at));
        }
    }

    private static void anEnd() {
        Check.sentence(Check.TERMS, "or an END (numbers w and y for each of six limits, 0 or more).");
        AmountPlanner x = planner(1);
        for (int i = 0; i < 6; i++) {
            x.limit(0, 0, 0, 0, -(1 << i));
        }
        for (int i = 0; i < 6; i++) {
            int[] y = new int[6];
            y[i] = 3;
            x.end(0, 1, y[0], y[1], y[2], y[3], y[4], y[5]);
            provesJust("y " + i, 3 << i, x);
            y[i] = -1;
            Check.badArgument("y " + i + " is -1", () -> x.end(0, 1, y[0], y[1], y[2], y[3], y[4], y[5]));
            provesJust("y " + i + " still", 3 << i, x);
        }
        x.end(0, 1, 1, 1, 1, 1, 1, 1);
        provesJust("all six", 63, x);
        x.end(0, 1, 0, 0, 0, 0, 0, 0);
        provesJust("none", 0, x);
        Check.badArgument("w is -1", () -> x.end(0, -1, 0, 0, 0, 0, 0, 0));
        provesJust("none, still", 0, x);
    }

    private static void nodeZeroWithTheProblem() {
        Check.sentence(Check.TERMS, "It is SOUND for a bound p / q, if node 0 is for it, "
                + "with the LEASTS and MOSTS of the problem:");
        AmountPlanner x = planner(1);
        plainEnd(x, 1);
        plainEnd(x, 39);
        Check.due("other nodes do not matter", false, () -> x.sound(-1000000, 1));
        plainEnd(x, 0);
        x.clear(1);
        x.clear(39);
        x.cost(0, 1);
        provesJust("the least of the problem", 0, x);
        x.amount(0, 5, 8, true);
        provesJust("the least of now", 5, x);
        x.cost(0, -1);
        provesJust("the most of the problem", -8, x);
        x.amount(0, -20, 20, false);
        provesJust("the most of now", -20, x);
        x.start(1);
        provesJust("of a new problem", 0, x);
        Check.due("once more, for it was left as it was", true, () -> x.sound(0, 1));
        x.fork(0, 0, 3, 1, 1);
        plainEnd(x, 1);
        x.cost(0, 1);
        Check.due("a FORK leaves the least and the most", "true true false",
                () -> x.sound(0, 1) + " " + x.sound(0, 1) + " " + x.sound(1, 1));
        plainEnd(x, 0);
        provesJust("after the FORK", 0, x);
        x.cost(0, -1);
        provesJust("after the FORK", -8, x);
    }

    private static void forkOfAnAmountThatIsThere() {
        Check.sentence(Check.TERMS, "a FORK, if its amount is one of the problem");
        for (int n = 1; n <= 4; n++) {
            AmountPlanner x = planner(4);
            x.start(n);
            plainEnd(x, 1);
            for (int j = 0; j < 4; j++) {
                x.fork(0, j, 3, 1, 1);
                Check.due("amount " + j + " of " + n, j < n, () -> x.sound(0, 1));
            }
        }
        AmountPlanner x = planner(2);
        x.fork(0, 2, 3, 1, 1);
        plainEnd(x, 1);
        Check.due("not yet there", false, () -> x.sound(0, 1));
        x.start(3);
        Check.due("there now", true, () -> x.sound(0, 1));
        x.start(2);
        Check.due("there no more", false, () -> x.sound(0, 1));
    }

    private static void forkOfAWholeAmount() {
        Check.sentence(Check.TERMS, "and WHOLE,");
        AmountPlanner x = planner(4);
        plainEnd(x, 1);
        for (int j = 0; j < 4; j++) {
            x.fork(0, j, 3, 1, 1);
            Check.due("amount " + j + ", whole", true, () -> x.sound(0, 1));
            x.amount(j, 0, 8, false);
            Check.due("amount " + j + ", any fraction", false, () -> x.sound(-1000000, 1));
            x.amount((j + 1) % 4, 0, 8, false);
            x.amount(j, 0, 8, true);
            Check.due("amount " + j + ", whole, another not", true, () -> x.sound(0, 1));
            x.amount((j + 1) % 4, 0, 8, true);
        }
        x.solve(true);
        Check.due("whole, though it was solved loosely", true, () -> x.sound(0, 1));
    }

    private static void forkNotBelowTheLeast() {
        Check.sentence(Check.TERMS, "its v is not below the LEAST");
        AmountPlanner x = planner(1);
        plainEnd(x, 1);
        for (int least = -20; least <= 12; least += 8) {
            x.amount(0, least, least + 8, true);
            x.fork(0, 0, least, 1, 1);
            Check.due("v is the least, " + least, true, () -> x.sound(0, 1));
            if (least > -20) {
                x.fork(0, 0, least - 1, 1, 1);
                Check.due("v is below the least, " + least, false, () -> x.sound(-1000000, 1));
                x.fork(0, 0, -20, 1, 1);
                Check.due("v is far below the least, " + least, false, () -> x.sound(-1000000, 1));
            }
        }
        // As it is there: behind a FORK at 3 the second node has 4 as its least.
        x.start(1);
        x.fork(0, 0, 3, 1, 2);
        plainEnd(x, 1);
        plainEnd(x, 3);
        x.fork(2, 0, 4, 3, 3);
        Check.due("4 is the least there", true, () -> x.sound(0, 1));
        x.fork(2, 0, 3, 3, 3);
        Check.due("3 is below it there", false, () -> x.sound(-1000000, 1));
        plainEnd(x, 2);
        x.fork(1, 0, 0, 3, 3);
        Check.due("0 is the least in the first node", true, () -> x.sound(0, 1));
        x.amount(0, 1, 8, true);
        Check.due("0 is below it now", false, () -> x.sound(-1000000, 1));
    }

    private static void forkBelowTheMost() {
        Check.sentence(Check.TERMS, "and below the MOST of it (as they are there),");
        AmountPlanner x = planner(1);
        plainEnd(x, 1);
        for (int most = -12; most <= 20; most += 8) {
            x.amount(0, most - 8, most, true);
            x.fork(0, 0, most - 1, 1, 1);
            Check.due("v is one below the most, " + most, true, () -> x.sound(0, 1));
            x.fork(0, 0, most, 1, 1);
            Check.due("v is the most, " + most, false, () -> x.sound(-1000000, 1));
            if (most < 20) {
                x.fork(0, 0, most + 1, 1, 1);
                Check.due("v is above the most, " + most, false, () -> x.sound(-1000000, 1));
                x.fork(0, 0, 20, 1, 1);
                Check.due("v is far above the most, " + most, false, () -> x.sound(-1000000, 1));
            }
        }
        x.amount(0, 5, 5, true);
        x.fork(0, 0, 5, 1, 1);
        Check.due("one value can't be forked", false, () -> x.sound(-1000000, 1));
        x.amount(0, 5, 6, true);
        Check.due("two can", true, () -> x.sound(0, 1));
        // As it is there: behind a FORK at 3 the first node has 3 as its most.
        x.start(1);
        x.fork(0, 0, 3, 1, 2);
        plainEnd(x, 2);
        plainEnd(x, 3);
        x.fork(1, 0, 2, 3, 3);
        Check.due("2 is below the most there", true, () -> x.sound(0, 1));
        x.fork(1, 0, 3, 3, 3);
        Check.due("3 is the most there", false, () -> x.sound(-1000000, 1));
        plainEnd(x, 1);
        x.fork(2, 0, 7, 3, 3);
        Check.due("7 is below the most in the second node", true, () -> x.sound(0, 1));
        x.amount(0, 0, 7, true);
        Check.due("7 is the most now", false, () -> x.sound(-1000000, 1));
        deepestForks();
    }

    /** 32 FORKS one behind the other take all values but one from four amounts; a 33rd is one too many. */
    private static void deepestForks() {
        AmountPlanner seconds = planner(4);
        AmountPlanner firsts = planner(4);
        for (int node = 0; node < 32; node++) {
            seconds.fork(node, node % 4, node / 4, 39, node + 1);
            firsts.fork(node, node % 4, 7 - node / 4, node + 1, 39);
        }
        for (AmountPlanner x : new AmountPlanner[] {seconds, firsts}) {
            plainEnd(x, 32);
            plainEnd(x, 39);
            for (int j = 0; j < 4; j++) {
                x.cost(j, 1);
            }
            provesJust("32 in a row", 0, x);
            int value = x == seconds ? 8 : 0;
            for (int v = value - 1; v <= value + 1; v++) {
                x.fork(32, 0, v, 39, 39);
                Check.due("one more, at " + v, false, () -> x.sound(-1000000, 1));
            }
        }
    }

    private static void firstNode() {
        Check.sentence(Check.TERMS, "and its first node (several may name one) is SOUND with v as the MOST,");
        AmountPlanner x = planner(2);
        x.cost(0, -1);
        x.fork(0, 0, 3, 1, 2);
        plainEnd(x, 1);
        // The second node proves what it likes, so the first one tells.
        x.limit(-1, 0, 0, 0, -4);
        x.limit(1, 0, 0, 0, 3);
        x.end(2, 0, 0, 1, 0, 0, 0, 0);
        provesJust("3 as the most", -3, x);
        x.fork(0, 0, 7, 1, 2);
        provesJust("7 as the most", -7, x);
        x.fork(0, 0, 0, 1, 2);
        Check.due("the second node has 1 as its least, which is not above 3", false, () -> x.sound(-1000000, 1));
        x.fork(0, 0, 3, 1, 2);
        x.clear(1);
        Check.due("it is NOTHING", false, () -> x.sound(-1000000, 1));
        x.cost(0, 1);
        plainEnd(x, 1);
        provesJust("the least stays", 0, x);
        x.start(2);
        x.cost(0, 1);
        x.cost(1, 1);
        x.fork(0, 0, 3, 1, 1);
        x.fork(1, 1, 3, 2, 2);
        plainEnd(x, 2);
        provesJust("one node for all", 0, x);
        x.cost(0, -1);
        x.cost(1, -1);
        provesJust("one node for all", -16, x);
    }

    private static void secondNode() {
        Check.sentence(Check.TERMS, "its second node with v + 1 as the LEAST.");
        AmountPlanner x = planner(2);
        x.cost(0, 1);
        x.fork(0, 0, 3, 2, 1);
        plainEnd(x, 1);
        // The first node proves what it likes, so the second one tells.
        x.limit(-1, 0, 0, 0, -4);
        x.limit(1, 0, 0, 0, 3);
        x.end(2, 0, 1, 0, 0, 0, 0, 0);
        provesJust("4 as the least", 4, x);
        x.fork(0, 0, 0, 2, 1);
        provesJust("1 as the least", 1, x);
        x.fork(0, 0, 4, 2, 1);
        Check.due("the first node has 4 as its most, which is not below 4", false, () -> x.sound(-1000000, 1));
        x.fork(0, 0, 3, 2, 1);
        x.clear(1);
        Check.due("it is NOTHING", false, () -> x.sound(-1000000, 1));
        x.cost(0, -1);
        plainEnd(x, 1);
        provesJust("the most stays", -8, x);
        x.amount(0, -20, -12, true);
        x.cost(0, 1);
        x.fork(0, 0, -13, 2, 1);
        x.end(2, 0, 1, 0, 0, 0, 0, 0);
        provesJust("-12 as the least", -12, x);
    }

    private static void sumsOfAnEnd() {
        Check.sentence(Check.TERMS, "an END: for each amount let e be w times its cost, "
                + "and the y times its weights of all limits that there are;");
        for (int j = 0; j < 4; j++) {
            AmountPlanner x = planner(4);
            x.amount(j, 1, 1, true);
            x.cost(j, 5);
            x.end(0, 2, 1, 2, 3, 4, 5, 6);
            // Twice 5 by w 2; a limit more adds y times its weight, by w 2 again.
            Check.due("no limit", true, () -> x.sound(5, 1));
            Check.due("no limit, no more", false, () -> x.sound(5001, 1000));
            int twice = 10;
            for (int i = 0; i < 6; i++) {
                int[] w = new int[4];
                w[j] = i % 2 == 0 ? 9 - i : i - 9;
                x.limit(w[0], w[1], w[2], w[3], 0);
                twice += (i + 1) * w[j];
                int sum = twice;
                Check.due("limits to " + i, true, () -> x.sound(sum, 2));
                Check.due("limits to " + i + ", no more", false, () -> x.sound(sum * 100 + 1, 200));
            }
            x.drop(5);
            int without = twice - 6 * -4;
            Check.due("limit 5 is there no more", true, () -> x.sound(without, 2));
            Check.due("limit 5 is there no more", false, () -> x.sound(without * 100 + 1, 200));
        }
    }

    private static void sumOverTheAmounts() {
        Check.sentence(Check.TERMS, "let s be the sum, over the amounts of the problem,");
        AmountPlanner x = planner(4);
        plainEnd(x, 0);
        for (int n = 1; n <= 4; n++) {
            x.start(4);
            for (int j = 0; j < 4; j++) {
                x.amount(j, 10, 10, true);
                x.cost(j, 9);
            }
            provesJust("four", 360, x);
            x.start(n);
            provesJust("those that are gone do not count", 0, x);
            for (int j = 0; j < n; j++) {
                x.amount(j, j + 1, j + 1, true);
                x.cost(j, 9);
            }
            provesJust(n + " amounts", 9 * n * (n + 1) / 2, x);
        }
    }

    private static void leastOrMost() {
        Check.sentence(Check.TERMS, "of e times LEAST (where e is 0 or more) or MOST (where it is less), "
                + "as they are there,");
        AmountPlanner x = planner(1);
        x.amount(0, 2, 5, true);
        x.limit(1, 0, 0, 0, 0);
        for (int c = -9; c <= 9; c++) {
            x.cost(0, c);
            x.end(0, 1, 0, 0, 0, 0, 0, 0);
            provesJust("e is " + c, c >= 0 ? 2 * c : 5 * c, x);
        }
        x.cost(0, -4);
        for (int y = 3; y <= 5; y++) {
            x.end(0, 1, y, 0, 0, 0, 0, 0);
            provesJust("e is " + (y - 4), y == 3 ? -5 : y == 4 ? 0 : 2, x);
        }
        x.amount(0, -5, -2, true);
        for (int y = 3; y <= 5; y++) {
            x.end(0, 1, y, 0, 0, 0, 0, 0);
            provesJust("e is " + (y - 4) + ", below 0", y == 3 ? 2 : y == 4 ? 0 : -5, x);
        }
        // As they are there: after a FORK at -4 one node has -4 as its most, the other -3 as its least.
        x.fork(0, 0, -4, 1, 1);
        x.end(1, 1, 0, 0, 0, 0, 0, 0);
        x.cost(0, 1);
        x.drop(0);
        provesJust("the least of the first node", -5, x);
        x.cost(0, -1);
        provesJust("the most of the second node", 2, x);
        x.limit(-1, 0, 0, 0, 3);
        x.end(2, 0, 1, 0, 0, 0, 0, 0);
        x.fork(0, 0, -4, 2, 1);
        provesJust("the most of the first node is below -3", 2, x);
        x.drop(0);
        x.limit(1, 0, 0, 0, -4);
        x.fork(0, 0, -4, 1, 2);
        provesJust("the least of the second node is above -4", 4, x);
        mixed();
    }

    private static void mixed() {
        AmountPlanner x = planner(4);
        int[] costs = {3, -3, 0, -1};
        for (int j = 0; j < 4; j++) {
            x.amount(j, -j, 2 * j + 1, false);
            x.cost(j, costs[j]);
        }
        plainEnd(x, 0);
        // 3 * 0, -3 * 3, 0 and -1 * 7.
        provesJust("each by its own sign", -16, x);
    }

    private static void lessTheBounds() {
        Check.sentence(Check.TERMS, "less the sum of the y times the bounds of these limits.");
        AmountPlanner x = planner(1);
        int[] bounds = {99, -99, 1, -1, 0, 50};
        int sum = 0;
        x.end(0, 1, 1, 2, 3, 4, 5, 6);
        provesJust("no limit", 0, x);
        for (int i = 0; i < 6; i++) {
            x.limit(0, 0, 0, 0, bounds[i]);
            sum -= (i + 1) * bounds[i];
            provesJust("limits to " + i, sum, x);
        }
        x.drop(0);
        // Each bound but the first has the y of the number before now.
        provesJust("without the first", 99 - 2 + 3 - 0 - 5 * 50, x);
    }

    private static void endWithoutW() {
        Check.sentence(Check.TERMS, "It is SOUND if w is 0 and s above 0,");
        AmountPlanner x = planner(1);
        x.cost(0, 9);
        for (int bound = -2; bound <= 2; bound++) {
            x.limit(1, 0, 0, 0, bound);
            x.end(0, 0, 1, 0, 0, 0, 0, 0);
            int s = -bound;
            for (int p : new int[] {-1000000, -1, 0, 1, 1000000}) {
                Check.due("s is " + s + ", for " + p, s > 0, () -> x.sound(p, 1));
                Check.due("s is " + s + ", for " + p + " / 1000000", s > 0, () -> x.sound(p, 1000000));
            }
            x.drop(0);
        }
        x.end(0, 0, 0, 0, 0, 0, 0, 0);
        Check.due("all are 0", false, () -> x.sound(-1000000, 1));
        x.amount(0, 1, 8, true);
        Check.due("the cost does not count", false, () -> x.sound(-1000000, 1));
        x.limit(-1, 0, 0, 0, -8);
        x.end(0, 0, 1, 0, 0, 0, 0, 0);
        Check.due("by the most, s is 0", false, () -> x.sound(-1000000, 1));
        x.drop(0);
        x.limit(-1, 0, 0, 0, -9);
        Check.due("by the most, s is 1", true, () -> x.sound(1000000, 1));
    }

    private static void endWithW() {
        Check.sentence(Check.TERMS, "or w is above 0 and q * s at least w * p.");
        AmountPlanner x = planner(1);
        x.amount(0, 1, 1, true);
        x.cost(0, 2);
        x.limit(-1, 0, 0, 0, -2);
        // s is 2 w - y + 2 y.
        int[][] cases = {{1, 0, 2}, {1, 1, 3}, {2, 1, 5}, {3, 1, 7}, {7, 5, 19}, {999999, 0, 1999998}, {1000000, 1, 2000001},
            {1000000, 1000000, 3000000}, {1, 1000000, 1000002}};
        for (int[] row : cases) {
            int w = row[0];
            long s = row[2];
            x.end(0, w, row[1], 0, 0, 0, 0, 0);
            for (int q : new int[] {1, 2, 3, 7, 999999, 1000000}) {
                long p = Math.floorDiv(q * s, w);
                if (p < 1000000) {
                    Check.due("w " + w + ", s " + s + ", q " + q, true, () -> x.sound((int) p, q));
                    Check.due("w " + w + ", s " + s + ", q " + q, false, () -> x.sound((int) p + 1, q));
                }
            }
        }
        x.cost(0, -2);
        x.drop(0);
        x.end(0, 3, 0, 0, 0, 0, 0, 0);
        Check.due("-2", true, () -> x.sound(-2, 1));
        Check.due("-1999999 / 1000000 is out of reach, but -999999 / 500000 is not", false,
                () -> x.sound(-999999, 500000));
        Check.due("-1000000 / 500000", true, () -> x.sound(-1000000, 500000));
        Check.due("-1000000 / 500001", false, () -> x.sound(-1000000, 500001));
        Check.due("-1000000 / 499999", true, () -> x.sound(-1000000, 499999));
    }

    private static void nothingIsNot() {
        Check.sentence(Check.TERMS, "NOTHING is not.");
        AmountPlanner x = planner(1);
        x.limit(0, 0, 0, 0, -1);
        Check.due("node 0", false, () -> x.sound(-1000000, 1));
        Check.due("even for a problem without a plan", false, () -> x.solve(false) || x.sound(-1000000, 1));
        x.fork(0, 0, 3, 1, 2);
        Check.due("both", false, () -> x.sound(-1000000, 1));
        plainEnd(x, 1);
        Check.due("the second", false, () -> x.sound(-1000000, 1));
        plainEnd(x, 2);
        Check.due("none", true, () -> x.sound(-1000000, 1));
        x.clear(1);
        Check.due("the first", false, () -> x.sound(-1000000, 1));
        plainEnd(x, 1);
        x.fork(2, 0, 6, 3, 4);
        plainEnd(x, 4);
        Check.due("one that is deeper", false, () -> x.sound(-1000000, 1));
        plainEnd(x, 3);
        Check.due("none", true, () -> x.sound(-1000000, 1));
        x.clear(0);
        Check.due("node 0", false, () -> x.sound(-1000000, 1));
    }

    /** The best of 2 a + 2 b at most 9 costs -4: no END alone proves it, a tree does. */
    private static void noPlanCostsLess() {
        Check.sentence(Check.TERMS, "(If a tree is SOUND for p / q, no plan costs less.)");
        AmountPlanner x = planner(2);
        x.cost(0, -1);
        x.cost(1, -1);
        x.limit(2, 2, 0, 0, 9);
        x.solve(false);
        Check.due("the best", -4, () -> x.total(0));
        for (int w = 0; w <= 4; w++) {
            for (int y = 0; y <= 4; y++) {
                x.end(0, w, y, 0, 0, 0, 0, 0);
                Check.due("w " + w + ", y " + y, false, () -> x.sound(-4, 1));
                x.end(1, w, y, 0, 0, 0, 0, 0);
                x.fork(0, 0, 3, 1, 1);
                Check.due("forked, w " + w + ", y " + y, false, () -> x.sound(-3999, 1000));
            }
        }
        // a = 0, 1 .. 4 one by one, b below or above 4 - a; what is behind breaks the limit.
        for (int a = 0; a < 5; a++) {
            x.fork(3 * a, 0, a, 3 * a + 1, 3 * a + 3);
            x.fork(3 * a + 1, 1, 4 - a, 3 * a + 2, 38);
            plainEnd(x, 3 * a + 2);
        }
        x.end(38, 0, 1, 0, 0, 0, 0, 0);
        x.end(15, 0, 1, 0, 0, 0, 0, 0);
        Check.due("the tree", true, () -> x.sound(-4, 1));
        Check.due("the tree", false, () -> x.sound(-3999, 1000));
    }
}
