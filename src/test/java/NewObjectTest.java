/** Promise 1: a new object. */
public final class NewObjectTest {
    public static void main(String[] args) {
        oneAmount();
        wholeFromZeroToZero();
        costZero();
        noLimit();
        nothingInTheTree();
        objectsShareNothing();
        Check.close();
    }

    private static void oneAmount() {
        Check.sentence(1, "One amount,");
        AmountPlanner x = new AmountPlanner();
        for (int j : Check.outside(0, 0)) {
            Check.badIndex("cost of " + j, () -> x.cost(j, 0));
            Check.badIndex("amount " + j, () -> x.amount(j, 0, 0, true));
            Check.badIndex("plan of " + j, () -> x.plan(j, 0));
        }
        Check.badArgument("no amount 1", () -> x.limit(0, 1, 0, 0, 0));
        Check.badArgument("no amount 2", () -> x.limit(0, 0, 1, 0, 0));
        Check.badArgument("no amount 3", () -> x.limit(0, 0, 0, 1, 0));
        Check.due("amount 0 is there", true, () -> x.solve(false));
        Check.due("its plan", 0, () -> x.plan(0, 0));
        Check.due("numbers of the others do not count", true, () -> x.keeps(0, 1, 2, 3, 4));
    }

    private static void wholeFromZeroToZero() {
        Check.sentence(1, "WHOLE, from 0 to 0,");
        AmountPlanner x = new AmountPlanner();
        Check.due("keeps 0", true, () -> x.keeps(0, 0, 0, 0, 1));
        Check.due("keeps 1 / 1000", false, () -> x.keeps(1, 0, 0, 0, 1000));
        Check.due("keeps -1 / 1000", false, () -> x.keeps(-1, 0, 0, 0, 1000));
        Check.due("solve", "0/1: 0/1", () -> Check.solved(x, false, 1));
        Check.due("prove", true, x::prove);
        Check.due("loosely", "0/1: 0/1", () -> Check.solved(x, true, 1));
        x.cost(0, 1);
        Check.due("the least", "0/1: 0/1", () -> Check.solved(x, true, 1));
        x.cost(0, -1);
        Check.due("the most", "0/1: 0/1", () -> Check.solved(x, true, 1));
        x.end(1, 1, 0, 0, 0, 0, 0, 0);
        for (int v = -1; v <= 0; v++) {
            x.fork(0, 0, v, 1, 1);
            Check.due("one value can't be forked at " + v, false, () -> x.sound(-9, 1));
        }
    }

    private static void costZero() {
        Check.sentence(1, "with cost 0;");
        AmountPlanner x = new AmountPlanner();
        x.amount(0, 1, 8, true);
        Check.due("the least amount, for nothing", "0/1: 1/1", () -> Check.solved(x, false, 1));
        x.end(0, 1, 0, 0, 0, 0, 0, 0);
        Check.due("no plan costs less than 0", true, () -> x.sound(0, 1));
        Check.due("but not more", false, () -> x.sound(1, 1000000));
    }

    private static void noLimit() {
        Check.sentence(1, "no limit;");
        AmountPlanner x = new AmountPlanner();
        for (int i = -1; i <= 6; i++) {
            int at = i;
            Check.badIndex("drop " + i, () -> x.drop(at));
        }
        x.end(0, 0, 1, 1, 1, 1, 1, 1);
        Check.due("no y counts", false, () -> x.sound(-1000000, 1));
        for (int i = 0; i < 6; i++) {
            Check.due("room for limit " + i, i, () -> x.limit(0, 0, 0, 0, 0));
        }
        Check.badState("and for no more", () -> x.limit(0, 0, 0, 0, 0));
    }

    /** With these limits and no cost every END is sound, but for one that has no number above 0. */
    private static void nothingInTheTree() {
        Check.sentence(1, "all nodes are NOTHING.");
        AmountPlanner x = new AmountPlanner();
        for (int i = 0; i < 6; i++) {
            x.limit(0, 0, 0, 0, -1);
        }
        Check.due("node 0", false, () -> x.sound(-1000000, 1));
        x.amount(0, 0, 1, true);
        for (int node = 1; node < 40; node++) {
            x.fork(0, 0, 0, node, node);
            Check.due("node " + node, false, () -> x.sound(-1000000, 1));
        }
        x.end(39, 1, 0, 0, 0, 0, 0, 0);
        Check.due("node 39 is no more", true, () -> x.sound(-1000000, 1));
    }

    private static void objectsShareNothing() {
        AmountPlanner other = new AmountPlanner();
        other.start(4);
        other.limit(0, 0, 0, 0, -1);
        other.end(0, 1, 0, 0, 0, 0, 0, 0);
        other.solve(false);
        AmountPlanner x = new AmountPlanner();
        Check.due("no other object's tree", false, () -> x.sound(-1000000, 1));
        Check.badIndex("no other object's limit", () -> x.drop(0));
        Check.badIndex("no other object's amount", () -> x.cost(1, 0));
        Check.badState("no other object's solve", x::prove);
    }
}
