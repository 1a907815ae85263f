/** Promise 9: plan. */
public final class PlanTest {
    public static void main(String[] args) {
        AmountPlanner x = new AmountPlanner();
        x.start(2);
        Check.badState("nothing was solved", () -> x.plan(0, 0));
        Check.badState("nothing was solved", () -> x.plan(1, 1));
        for (int bad : new int[] {-1, 2, 3, 4, Integer.MIN_VALUE, Integer.MAX_VALUE}) {
            Check.badIndex("the index comes first", () -> x.plan(bad, 2));
            Check.badIndex("the index comes first", () -> x.plan(bad, 0));
        }
        for (int bad : new int[] {-1, 2, Integer.MIN_VALUE, Integer.MAX_VALUE}) {
            Check.badArgument("then the argument", () -> x.plan(1, bad));
        }
        x.amount(0, -20, 20, false);
        x.limit(-6, 0, 0, 0, 9);
        x.limit(0, -4, 0, 0, -6);
        Check.due("solve", true, () -> x.solve(false));
        Check.due("amount 0, p", -3, () -> x.plan(0, 0));
        Check.due("amount 0, q", 2, () -> x.plan(0, 1));
        Check.due("amount 1, p", 2, () -> x.plan(1, 0));
        Check.due("amount 1, q", 1, () -> x.plan(1, 1));
        Check.due("solve loosely", true, () -> x.solve(true));
        Check.due("amount 1, p", 3, () -> x.plan(1, 0));
        Check.due("amount 1, q", 2, () -> x.plan(1, 1));
        for (int bad : new int[] {-1, 2, Integer.MIN_VALUE, Integer.MAX_VALUE}) {
            Check.badArgument("which " + bad, () -> x.plan(0, bad));
            Check.badIndex("amount " + bad, () -> x.plan(bad, 0));
        }
        x.cost(0, 0);
        Check.badState("a change forgets", () -> x.plan(0, 0));
        x.limit(0, 1, 0, 0, 1);
        Check.due("no plan", false, () -> x.solve(false));
        Check.badState("there is no plan", () -> x.plan(0, 0));
        Check.badArgument("the argument comes first", () -> x.plan(0, 2));
        Check.badIndex("the index comes first", () -> x.plan(2, 2));
        Check.close();
    }
}
