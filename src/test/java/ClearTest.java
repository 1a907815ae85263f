/** Promise 13: clear. */
public final class ClearTest {
    public static void main(String[] args) {
        becomesNothing();
        noSuchNode();
        Check.close();
    }

    private static void becomesNothing() {
        Check.sentence(13, "A node becomes NOTHING.");
        AmountPlanner x = new AmountPlanner();
        x.start(1);
        x.end(0, 1, 0, 0, 0, 0, 0, 0);
        Check.due("an END", true, () -> x.sound(0, 1));
        Check.passes("clear another", () -> x.clear(39));
        Check.due("it stays", true, () -> x.sound(0, 1));
        Check.passes("clear 0", () -> x.clear(0));
        Check.due("NOTHING", false, () -> x.sound(-1000000, 1));
        Check.passes("clear NOTHING", () -> x.clear(0));
        Check.due("NOTHING still", false, () -> x.sound(-1000000, 1));
        for (int node = 1; node < 40; node++) {
            int at = node;
            x.fork(0, 0, 4, node, node);
            x.end(node, 1, 0, 0, 0, 0, 0, 0);
            Check.due("an END at " + node, true, () -> x.sound(0, 1));
            Check.passes("clear " + node, () -> x.clear(at));
            Check.due("NOTHING at " + node, false, () -> x.sound(-1000000, 1));
        }
        x.fork(0, 0, 4, 38, 39);
        x.end(38, 1, 0, 0, 0, 0, 0, 0);
        x.end(39, 1, 0, 0, 0, 0, 0, 0);
        Check.due("a FORK", true, () -> x.sound(0, 1));
        x.clear(0);
        Check.due("NOTHING", false, () -> x.sound(-1000000, 1));
        x.fork(0, 0, 4, 38, 39);
        Check.due("its nodes stayed", true, () -> x.sound(0, 1));
        x.solve(false);
        x.clear(0);
        Check.due("what was solved stays", 0, () -> x.total(0));
        Check.due("what was solved stays", true, x::prove);
    }

    private static void noSuchNode() {
        Check.sentence(13, "IndexOutOfBoundsException.");
        AmountPlanner x = new AmountPlanner();
        x.start(1);
        x.fork(0, 0, 4, 1, 39);
        x.end(1, 1, 0, 0, 0, 0, 0, 0);
        x.end(39, 1, 0, 0, 0, 0, 0, 0);
        for (int node : Check.outside(0, 39)) {
            Check.badIndex("node " + node, () -> x.clear(node));
            Check.due("the tree is as it was", true, () -> x.sound(0, 1));
        }
        Check.passes("node 39", () -> x.clear(39));
        Check.due("node 39 was cleared", false, () -> x.sound(0, 1));
        Check.passes("node 0", () -> x.clear(0));
    }
}
