/** Promise 7: solve. What the best plan is, stands in TermsPlanTest. */
public final class SolveTest {
    public static void main(String[] args) {
        bestOrLoosely();
        isThereAPlan();
        withoutOne();
        fractions();
        Check.close();
    }

    private static void bestOrLoosely() {
        Check.sentence(7, "Looks for the BEST plan, or LOOSELY:");
        AmountPlanner x = new AmountPlanner();
        x.start(2);
        x.cost(0, -5);
        x.cost(1, -4);
        x.limit(6, 4, 0, 0, 24);
        x.limit(1, 2, 0, 0, 6);
        Check.due("best", "-20/1: 4/1 0/1", () -> Check.solved(x, false, 2));
        Check.due("best loosely", "-21/1: 3/1 3/2", () -> Check.solved(x, true, 2));
        Check.due("the latest counts", "-20/1: 4/1 0/1", () -> Check.solved(x, false, 2));
        Check.due("again", "-20/1: 4/1 0/1", () -> Check.solved(x, false, 2));
        x.drop(0);
        Check.due("after a change", "-44/1: 8/1 1/1", () -> {
            x.limit(1, 2, 0, 0, 10);
            x.drop(0);
            return Check.solved(x, false, 2);
        });
    }

    /** 2 a + 2 b is from least to 9: with 9 it takes a half, and with 10 there is none at all. */
    private static void isThereAPlan() {
        Check.sentence(7, "whether there is a plan");
        AmountPlanner x = new AmountPlanner();
        x.start(2);
        x.limit(2, 2, 0, 0, 9);
        Check.due("one limit", true, () -> x.solve(false));
        x.limit(-2, -2, 0, 0, -8);
        Check.due("8 to 9", true, () -> x.solve(false));
        Check.due("8 to 9, loosely", true, () -> x.solve(true));
        x.drop(1);
        x.limit(-2, -2, 0, 0, -9);
        Check.due("9 to 9", false, () -> x.solve(false));
        Check.due("9 to 9, loosely", true, () -> x.solve(true));
        x.amount(1, 0, 8, false);
        Check.due("9 to 9, one may be any fraction", true, () -> x.solve(false));
        x.drop(1);
        x.limit(-2, -2, 0, 0, -10);
        Check.due("10 to 9", false, () -> x.solve(false));
        Check.due("10 to 9, loosely", false, () -> x.solve(true));
        x.drop(1);
        Check.due("without the second limit", true, () -> x.solve(false));
        Check.due("without the second limit, loosely", true, () -> x.solve(true));
        x.limit(0, 0, 0, 0, 0);
        Check.due("nothing is at most 0", true, () -> x.solve(false));
        x.limit(0, 0, 0, 0, -1);
        Check.due("nothing is not at most -1", false, () -> x.solve(false));
        Check.due("nothing is not at most -1, loosely", false, () -> x.solve(true));
    }

    private static void withoutOne() {
        Check.sentence(7, "(without one it is solved, too: total and plan throw, prove does not).");
        AmountPlanner x = new AmountPlanner();
        x.start(2);
        Check.due("a plan", true, () -> x.solve(false));
        Check.due("its total", 0, () -> x.total(0));
        x.limit(1, 0, 0, 0, -1);
        Check.badState("prove, before it is solved", x::prove);
        Check.due("no plan", false, () -> x.solve(false));
        for (int which = 0; which < 2; which++) {
            int part = which;
            Check.badState("total " + which, () -> x.total(part));
            Check.badState("plan of 0", () -> x.plan(0, part));
            Check.badState("plan of 1", () -> x.plan(1, part));
        }
        Check.due("prove does not throw", true, x::prove);
        Check.due("nor the second time", true, x::prove);
        Check.badState("prove gives no plan", () -> x.total(0));
        Check.due("loosely there is none, too", false, () -> x.solve(true));
        Check.badState("total, loosely", () -> x.total(0));
        Check.badState("plan, loosely", () -> x.plan(0, 0));
        Check.badState("prove, loosely", x::prove);
        x.drop(0);
        Check.due("a plan again", "0/1: 0/1 0/1", () -> Check.solved(x, false, 2));
        x.limit(2, 2, 0, 0, 9);
        x.limit(-2, -2, 0, 0, -9);
        Check.due("one that is not whole", "0/1: 0/1 9/2", () -> Check.solved(x, true, 2));
        Check.due("none that is whole", false, () -> x.solve(false));
        Check.badState("the total of the earlier one is gone", () -> x.total(0));
        Check.badState("the plan of the earlier one is gone", () -> x.plan(1, 0));
        Check.due("prove does not throw", true, x::prove);
    }

    /** Not a sentence of its own: without whole amounts, solving loosely is solving. */
    private static void fractions() {
        AmountPlanner x = new AmountPlanner();
        x.start(4);
        int[] costs = {-7, -9, -6, -8};
        for (int j = 0; j < 4; j++) {
            x.cost(j, costs[j]);
            x.amount(j, -20, 20, false);
        }
        x.limit(9, 8, 7, 6, 50);
        x.limit(3, 9, 1, 5, 40);
        x.limit(7, 2, 9, 8, 61);
        x.limit(-9, 9, 9, 9, 99);
        String told = Check.solved(x, false, 4);
        Check.due("without whole ones it is the same", told, () -> Check.solved(x, true, 4));
    }
}
