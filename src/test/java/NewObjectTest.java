/** Promise 1: a new object has one whole amount from 0 to 0, no cost, no limit, an empty tree. */
public final class NewObjectTest {
    public static void main(String[] args) {
        AmountPlanner x = new AmountPlanner();
        Check.badState("total before solve", () -> x.total(0));
        Check.badState("plan before solve", () -> x.plan(0, 0));
        Check.badState("prove before solve", x::prove);
        Check.due("keeps 0", true, () -> x.keeps(0, 0, 0, 0, 1));
        Check.due("keeps 1", false, () -> x.keeps(1, 0, 0, 0, 1));
        Check.due("keeps -1", false, () -> x.keeps(-1, 0, 0, 0, 1));
        Check.due("no bound is sound", false, () -> x.sound(-1000000, 1));
        Check.badIndex("no amount 1", () -> x.cost(1, 0));
        Check.badIndex("no limit 0", () -> x.drop(0));
        Check.due("solve", true, () -> x.solve(false));
        Check.due("told", "0/1: 0/1", () -> Check.told(x, 1));
        Check.due("prove", true, x::prove);
        Check.due("loosely", true, () -> x.solve(true));
        Check.due("told loosely", "0/1: 0/1", () -> Check.told(x, 1));
        Check.due("first limit", 0, () -> x.limit(1, 0, 0, 0, -1));
        Check.due("no plan", false, () -> x.solve(false));

        AmountPlanner whole = new AmountPlanner();
        whole.fork(0, 0, 0, 1, 2);
        whole.end(1, 1, 0, 0, 0, 0, 0, 0);
        whole.end(2, 1, 0, 0, 0, 0, 0, 0);
        Check.due("from 0 to 0 there is no fork", false, () -> whole.sound(-9, 1));
        whole.end(0, 1, 0, 0, 0, 0, 0, 0);
        Check.due("the cost is 0", true, () -> whole.sound(0, 1));
        Check.due("and no more", false, () -> whole.sound(1, 1000000));

        AmountPlanner other = new AmountPlanner();
        Check.due("objects share nothing", false, () -> other.sound(0, 1));
        for (int node = 0; node < 40; node++) {
            AmountPlanner fresh = new AmountPlanner();
            int at = node;
            if (node > 0) {
                fresh.amount(0, 0, 1, true);
                fresh.fork(0, 0, 0, node, node);
            }
            Check.due("node " + at + " is nothing", false, () -> fresh.sound(-1000000, 1));
        }
        Check.close();
    }
}
