/** Promise 11: fork. */
public final class ForkTest {
    public static void main(String[] args) {
        wrong();
        refusedChangesNothing();
        splits();
        sharedNodes();
        Check.close();
    }

    private static void wrong() {
        AmountPlanner x = new AmountPlanner();
        int low = Integer.MIN_VALUE;
        int high = Integer.MAX_VALUE;
        for (int bad : new int[] {-1, 40, low, high}) {
            Check.badIndex("node " + bad, () -> x.fork(bad, 0, 0, 38, 39));
            Check.badIndex("first " + bad, () -> x.fork(0, 0, 0, bad, 1));
            Check.badIndex("second " + bad, () -> x.fork(0, 0, 0, 1, bad));
            Check.badIndex("the index comes first", () -> x.fork(bad, 4, 21, 1, 2));
            Check.badIndex("the index comes first", () -> x.fork(0, 4, 21, 1, bad));
        }
        Check.badIndex("not greater", () -> x.fork(5, 0, 0, 5, 6));
        Check.badIndex("not greater", () -> x.fork(5, 0, 0, 6, 5));
        Check.badIndex("not greater", () -> x.fork(5, 0, 0, 4, 6));
        Check.badIndex("not greater", () -> x.fork(5, -1, 0, 6, 0));
        Check.badIndex("node 39 has none that is greater", () -> x.fork(39, 0, 0, 39, 39));
        for (int bad : new int[] {-1, 4, low, high}) {
            Check.badArgument("amount " + bad, () -> x.fork(0, bad, 0, 1, 2));
        }
        for (int bad : new int[] {-21, 21, low, high}) {
            Check.badArgument("v " + bad, () -> x.fork(0, 0, bad, 1, 2));
        }
        Check.passes("edges", () -> x.fork(38, 3, -20, 39, 39));
        Check.passes("edges", () -> x.fork(0, 0, 20, 39, 1));
    }

    private static void refusedChangesNothing() {
        AmountPlanner x = new AmountPlanner();
        x.end(0, 1, 0, 0, 0, 0, 0, 0);
        Check.badIndex("refused", () -> x.fork(0, 0, 0, 0, 1));
        Check.badArgument("refused", () -> x.fork(0, 4, 0, 1, 1));
        Check.due("node 0 is the end still", true, () -> x.sound(0, 1));
        x.solve(false);
        x.fork(0, 0, 0, 1, 2);
        Check.due("a fork leaves what was solved", 0, () -> x.total(0));
        Check.due("node 0 is a fork now", false, () -> x.sound(0, 1));
    }

    private static void splits() {
        AmountPlanner x = new AmountPlanner();
        x.start(2);
        x.cost(0, 1);
        x.cost(1, -1);
        x.limit(-1, 1, 0, 0, 0);
        x.fork(0, 0, 3, 1, 2);
        x.end(1, 1, 1, 0, 0, 0, 0, 0);
        x.end(2, 1, 0, 0, 0, 0, 0, 0);
        Check.due("the second has 4 as its least", true, () -> x.sound(-4, 1));
        Check.due("and no more", false, () -> x.sound(-3, 1));
        x.end(1, 1, 0, 0, 0, 0, 0, 0);
        x.end(2, 1, 1, 0, 0, 0, 0, 0);
        Check.due("the first has 0 as its least", true, () -> x.sound(-8, 1));
        Check.due("and no more", false, () -> x.sound(-7, 1));
        x.cost(0, -1);
        x.cost(1, 0);
        x.end(2, 1, 0, 0, 0, 0, 0, 0);
        Check.due("the second has 8 as its most", true, () -> x.sound(-8, 1));
        Check.due("and no less", false, () -> x.sound(-7, 1));
        x.limit(1, 0, 0, 0, 3);
        x.end(2, 0, 0, 1, 0, 0, 0, 0);
        Check.due("the first has 3 as its most", true, () -> x.sound(-3, 1));
        Check.due("and no less", false, () -> x.sound(-2, 1));
        x.fork(0, 0, 3, 2, 1);
        Check.due("the nodes in the other order", false, () -> x.sound(-8, 1));
    }

    private static void sharedNodes() {
        AmountPlanner x = new AmountPlanner();
        x.start(1);
        for (int node = 0; node < 8; node++) {
            x.fork(node, 0, node, 39, node + 1);
        }
        x.end(8, 1, 0, 0, 0, 0, 0, 0);
        x.end(39, 1, 0, 0, 0, 0, 0, 0);
        Check.due("several may name one", true, () -> x.sound(0, 1));
        x.fork(8, 0, 7, 9, 9);
        x.end(9, 1, 0, 0, 0, 0, 0, 0);
        Check.due("v below the least there", false, () -> x.sound(0, 1));
        x.fork(8, 0, 8, 9, 9);
        Check.due("v not below the most there", false, () -> x.sound(0, 1));
        x.fork(0, 0, 4, 9, 9);
        Check.due("both nodes may be one", true, () -> x.sound(0, 1));
    }
}
