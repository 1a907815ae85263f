/** Promise 9: plan. */
public final class PlanTest {
    public static void main(String[] args) {
        itsParts();
        noSuchAmount();
        otherParts();
        noPlan();
        Check.close();
    }

    /** Amount 0 is at least -3 / 2, amount 1 at least 3 / 2. */
    private static AmountPlanner planner() {
        AmountPlanner x = new AmountPlanner();
        x.start(2);
        x.amount(0, -20, 20, false);
        x.limit(-6, 0, 0, 0, 9);
        x.limit(0, -4, 0, 0, -6);
        return x;
    }

    private static void itsParts() {
        Check.sentence(9, "An amount of the plan: p (which = 0) or q (1).");
        AmountPlanner x = planner();
        Check.due("solve", true, () -> x.solve(false));
        Check.due("amount 0, p", -3, () -> x.plan(0, 0));
        Check.due("amount 0, q", 2, () -> x.plan(0, 1));
        Check.due("amount 1, p", 2, () -> x.plan(1, 0));
        Check.due("amount 1, q", 1, () -> x.plan(1, 1));
        Check.due("solve loosely", true, () -> x.solve(true));
        Check.due("amount 1, p", 3, () -> x.plan(1, 0));
        Check.due("amount 1, q", 2, () -> x.plan(1, 1));
        AmountPlanner four = new AmountPlanner();
        four.start(4);
        for (int j = 0; j < 4; j++) {
            four.amount(j, j + 5, j + 5, true);
        }
        Check.due("each of four", "0/1: 5/1 6/1 7/1 8/1", () -> Check.solved(four, false, 4));
    }

    private static void noSuchAmount() {
        Check.sentence(9, "IndexOutOfBoundsException;");
        for (int n = 1; n <= 4; n++) {
            AmountPlanner x = new AmountPlanner();
            x.start(4);
            x.solve(false);
            x.start(n);
            for (int j : Check.outside(0, n - 1)) {
                Check.badIndex("before a solve, amount " + j + " of " + n, () -> x.plan(j, 0));
                Check.badIndex("before a solve, amount " + j + " of " + n, () -> x.plan(j, 2));
            }
            x.solve(false);
            for (int j : Check.outside(0, n - 1)) {
                Check.badIndex("amount " + j + " of " + n, () -> x.plan(j, 0));
                Check.badIndex("amount " + j + " of " + n, () -> x.plan(j, 1));
                Check.badIndex("the index comes first", () -> x.plan(j, -1));
            }
            int last = n - 1;
            Check.due("the last of " + n, 0, () -> x.plan(last, 0));
            x.limit(0, 0, 0, 0, -1);
            x.solve(false);
            Check.badIndex("without a plan, amount " + n, () -> x.plan(last + 1, 0));
            Check.badIndex("without a plan, amount -1", () -> x.plan(-1, 2));
        }
    }

    private static void otherParts() {
        Check.sentence(9, "IllegalArgumentException: another which;");
        AmountPlanner x = planner();
        for (int which : Check.outside(0, 1)) {
            Check.badArgument("before a solve, which " + which, () -> x.plan(0, which));
            Check.badArgument("before a solve, which " + which, () -> x.plan(1, which));
        }
        x.solve(false);
        for (int which : Check.outside(0, 1)) {
            Check.badArgument("which " + which, () -> x.plan(0, which));
            Check.badArgument("which " + which, () -> x.plan(1, which));
        }
        Check.due("they changed nothing", "0/1: -3/2 2/1", () -> Check.told(x, 2));
        x.limit(0, 0, 0, 0, -1);
        x.solve(false);
        for (int which : Check.outside(0, 1)) {
            Check.badArgument("without a plan, which " + which, () -> x.plan(0, which));
        }
    }

    private static void noPlan() {
        Check.sentence(9, "IllegalStateException.");
        AmountPlanner fresh = new AmountPlanner();
        AmountPlanner x = planner();
        for (int which = 0; which < 2; which++) {
            int part = which;
            Check.badState("of a new object", () -> fresh.plan(0, part));
            for (int j = 0; j < 2; j++) {
                int at = j;
                Check.badState("nothing was solved", () -> x.plan(at, part));
                x.solve(false);
                Check.passes("solved", () -> x.plan(at, part));
                x.cost(0, 0);
                Check.badState("not since a change", () -> x.plan(at, part));
                x.solve(true);
                Check.passes("solved loosely", () -> x.plan(at, part));
                x.limit(0, 1, 0, 0, 1);
                Check.badState("not since a change", () -> x.plan(at, part));
                x.solve(false);
                Check.badState("there is no plan", () -> x.plan(at, part));
                x.solve(true);
                Check.badState("there is no plan, loosely", () -> x.plan(at, part));
                x.drop(2);
                Check.badState("not since a change", () -> x.plan(at, part));
            }
        }
    }
}
