/** Promise 11: fork. When a fork is sound, stands in TermsTreeTest. */
public final class ForkTest {
    public static void main(String[] args) {
        becomesAFork();
        bothMayBeOne();
        noSuchNode();
        othersAreNone();
        othersAreNotGreater();
        otherAmounts();
        otherValues();
        refusedOnesChangeNothing();
        Check.close();
    }

    private static AmountPlanner planner() {
        AmountPlanner x = new AmountPlanner();
        x.start(1);
        return x;
    }

    private static void becomesAFork() {
        Check.sentence(11, "A node becomes a FORK");
        AmountPlanner x = planner();
        x.cost(0, 1);
        x.end(38, 1, 0, 0, 0, 0, 0, 0);
        x.end(39, 1, 0, 0, 0, 0, 0, 0);
        Check.due("node 0 is NOTHING", false, () -> x.sound(0, 1));
        Check.passes("fork", () -> x.fork(0, 0, 3, 38, 39));
        Check.due("node 0 is a FORK", true, () -> x.sound(0, 1));
        x.clear(38);
        Check.due("it names node 38", false, () -> x.sound(-9, 1));
        Check.passes("another FORK", () -> x.fork(0, 0, 3, 39, 37));
        Check.due("it names node 37", false, () -> x.sound(-9, 1));
        x.end(37, 1, 0, 0, 0, 0, 0, 0);
        Check.due("it names nodes 39 and 37", true, () -> x.sound(0, 1));
        x.end(0, 1, 0, 0, 0, 0, 0, 0);
        x.fork(0, 0, 8, 37, 37);
        Check.due("an END becomes a FORK, which is not sound", false, () -> x.sound(-9, 1));
        x.fork(0, 0, 7, 37, 37);
        Check.due("with another v it is", true, () -> x.sound(0, 1));
        x.solve(false);
        x.fork(0, 0, 6, 37, 37);
        Check.due("what was solved stays", 0, () -> x.total(0));
        Check.due("what was solved stays", true, x::prove);
    }

    private static void bothMayBeOne() {
        Check.sentence(11, "(its two nodes may be one).");
        AmountPlanner x = planner();
        for (int node = 0; node < 39; node++) {
            int at = node;
            Check.passes("node " + node, () -> x.fork(at, 0, 0, at + 1, at + 1));
        }
        x.fork(0, 0, 3, 39, 39);
        x.end(39, 1, 0, 0, 0, 0, 0, 0);
        Check.due("both are sound", true, () -> x.sound(0, 1));
    }

    private static void noSuchNode() {
        Check.sentence(11, "IndexOutOfBoundsException: there is no such node,");
        AmountPlanner x = planner();
        for (int node : Check.outside(0, 39)) {
            Check.badIndex("node " + node, () -> x.fork(node, 0, 0, 38, 39));
            Check.badIndex("the index comes first", () -> x.fork(node, 4, 0, 38, 39));
            Check.badIndex("the index comes first", () -> x.fork(node, 0, 21, 38, 39));
            Check.badIndex("those behind it are none", () -> x.fork(node, 0, 0, node + 1, node + 1));
        }
        Check.passes("node 0", () -> x.fork(0, 0, 0, 38, 39));
        Check.passes("node 38", () -> x.fork(38, 0, 0, 39, 39));
    }

    private static void othersAreNone() {
        Check.sentence(11, "or one of the others is none,");
        AmountPlanner x = planner();
        for (int node : Check.outside(0, 39)) {
            Check.badIndex("first " + node, () -> x.fork(0, 0, 0, node, 1));
            Check.badIndex("second " + node, () -> x.fork(0, 0, 0, 1, node));
            Check.badIndex("both " + node, () -> x.fork(0, 0, 0, node, node));
            Check.badIndex("the index comes first", () -> x.fork(0, -1, 0, node, 1));
            Check.badIndex("the index comes first", () -> x.fork(0, 0, -21, 1, node));
        }
        Check.badIndex("first 40 of the last", () -> x.fork(38, 0, 0, 40, 39));
        Check.badIndex("second 40 of the last", () -> x.fork(38, 0, 0, 39, 40));
        Check.passes("39 of the last", () -> x.fork(38, 0, 0, 39, 39));
        Check.passes("39 of the first", () -> x.fork(0, 0, 0, 39, 39));
    }

    private static void othersAreNotGreater() {
        Check.sentence(11, "or not greater;");
        AmountPlanner x = planner();
        for (int node = 0; node < 40; node++) {
            int at = node;
            Check.badIndex("first is node " + node, () -> x.fork(at, 0, 0, at, 39));
            Check.badIndex("second is node " + node, () -> x.fork(at, 0, 0, 39, at));
            Check.badIndex("both are node " + node, () -> x.fork(at, 0, 0, at, at));
            if (node > 0) {
                Check.badIndex("first is one less", () -> x.fork(at, 0, 0, at - 1, 39));
                Check.badIndex("second is one less", () -> x.fork(at, 0, 0, 39, at - 1));
                Check.badIndex("the index comes first", () -> x.fork(at, 4, 21, 39, 0));
            }
            if (node < 39) {
                Check.passes("one more", () -> x.fork(at, 0, 0, at + 1, 39));
                Check.passes("one more", () -> x.fork(at, 0, 0, 39, at + 1));
            }
        }
        for (int other = 0; other < 40; other++) {
            int to = other;
            Check.badIndex("node 39 has none that is greater", () -> x.fork(39, 0, 0, to, to));
        }
    }

    private static void otherAmounts() {
        Check.sentence(11, "IllegalArgumentException: j is not 0 .. 3,");
        for (int n = 1; n <= 4; n++) {
            AmountPlanner x = new AmountPlanner();
            x.start(n);
            x.end(1, 1, 0, 0, 0, 0, 0, 0);
            for (int j : Check.outside(0, 3)) {
                Check.badArgument("amount " + j, () -> x.fork(0, j, 0, 1, 1));
            }
            for (int j = 0; j < 4; j++) {
                int at = j;
                Check.passes("amount " + j + " with " + n, () -> x.fork(0, at, 0, 1, 1));
                Check.due("it is sound if there is one", j < n, () -> x.sound(0, 1));
            }
        }
    }

    private static void otherValues() {
        Check.sentence(11, "or v not -20 .. 20.");
        AmountPlanner x = planner();
        x.amount(0, 12, 20, true);
        x.end(1, 1, 0, 0, 0, 0, 0, 0);
        for (int v : Check.outside(-20, 20)) {
            Check.badArgument("v " + v, () -> x.fork(0, 0, v, 1, 1));
            Check.badArgument("v " + v, () -> x.fork(0, 3, v, 1, 1));
        }
        for (int v = -20; v <= 20; v++) {
            int at = v;
            Check.passes("v " + v, () -> x.fork(0, 0, at, 1, 1));
            Check.due("v " + v + " from 12 to 20", v >= 12 && v < 20, () -> x.sound(0, 1));
        }
        x.amount(0, -20, -12, true);
        for (int v = -20; v <= 20; v++) {
            int at = v;
            Check.passes("v " + v, () -> x.fork(0, 0, at, 1, 1));
            Check.due("v " + v + " from -20 to -12", v < -12, () -> x.sound(0, 1));
        }
    }

    /** Each refused one would make the tree sound for less, or for nothing. */
    private static void refusedOnesChangeNothing() {
        AmountPlanner x = planner();
        x.cost(0, 1);
        x.end(0, 1, 0, 0, 0, 0, 0, 0);
        Check.badIndex("refused", () -> x.fork(0, 0, 3, 0, 1));
        Check.badIndex("refused", () -> x.fork(0, 0, 3, 1, 40));
        Check.badArgument("refused", () -> x.fork(0, 4, 3, 1, 1));
        Check.badArgument("refused", () -> x.fork(0, 0, 21, 1, 1));
        Check.due("node 0 is the END still", true, () -> x.sound(0, 1));
        x.fork(0, 0, 3, 1, 2);
        x.end(1, 1, 0, 0, 0, 0, 0, 0);
        x.end(2, 1, 0, 0, 0, 0, 0, 0);
        Check.badIndex("refused", () -> x.fork(0, 0, 3, 3, 0));
        Check.badArgument("refused", () -> x.fork(0, -1, 3, 3, 3));
        Check.badArgument("refused", () -> x.fork(0, 0, -21, 3, 3));
        Check.due("node 0 is the FORK still", true, () -> x.sound(0, 1));
    }
}
