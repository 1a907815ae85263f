/** Promise 7: solve, also the best of several plans, and what is solved when there is none. */
public final class SolveTest {
    public static void main(String[] args) {
        ordinary();
        firstOfTheBest();
        noPlan();
        fractions();
        Check.close();
    }

    private static void ordinary() {
        AmountPlanner x = new AmountPlanner();
        x.start(2);
        x.cost(0, -5);
        x.cost(1, -4);
        x.limit(6, 4, 0, 0, 24);
        x.limit(1, 2, 0, 0, 6);
        Check.due("solve", true, () -> x.solve(false));
        Check.due("best", "-20/1: 4/1 0/1", () -> Check.told(x, 2));
        Check.due("solve loosely", true, () -> x.solve(true));
        Check.due("best loosely", "-21/1: 3/1 3/2", () -> Check.told(x, 2));
        Check.due("solve again", true, () -> x.solve(false));
        Check.due("the latest counts", "-20/1: 4/1 0/1", () -> Check.told(x, 2));
    }

    private static void firstOfTheBest() {
        AmountPlanner x = new AmountPlanner();
        x.start(4);
        for (int j = 0; j < 4; j++) {
            x.cost(j, -1);
        }
        x.limit(1, 1, 1, 1, 20);
        Check.due("solve", true, () -> x.solve(false));
        Check.due("the least amount 0, then 1 ..", "-20/1: 0/1 4/1 8/1 8/1", () -> Check.told(x, 4));
        Check.due("loosely", true, () -> x.solve(true));
        Check.due("the same loosely", "-20/1: 0/1 4/1 8/1 8/1", () -> Check.told(x, 4));
        x.limit(0, 2, 0, 0, 7);
        Check.due("solve", true, () -> x.solve(false));
        Check.due("amount 1 has an end", "-20/1: 1/1 3/1 8/1 8/1", () -> Check.told(x, 4));
        Check.due("loosely", true, () -> x.solve(true));
        Check.due("at a half", "-20/1: 1/2 7/2 8/1 8/1", () -> Check.told(x, 4));
        x.amount(1, 0, 8, false);
        Check.due("solve", true, () -> x.solve(false));
        Check.due("one may be a fraction", "-20/1: 1/1 3/1 8/1 8/1", () -> Check.told(x, 4));
        x.amount(0, -20, 20, false);
        Check.due("solve", true, () -> x.solve(false));
        Check.due("two may", "-20/1: 1/2 7/2 8/1 8/1", () -> Check.told(x, 4));
    }

    private static void noPlan() {
        AmountPlanner x = new AmountPlanner();
        x.start(2);
        x.limit(2, 2, 0, 0, 9);
        x.limit(-2, -2, 0, 0, -9);
        Check.due("loosely there is a plan", true, () -> x.solve(true));
        Check.due("told", "0/1: 0/1 9/2", () -> Check.told(x, 2));
        Check.due("a sum of 9 / 2 is not whole", false, () -> x.solve(false));
        Check.badState("total", () -> x.total(0));
        Check.badState("plan", () -> x.plan(0, 0));
        Check.due("prove does not throw", true, x::prove);
        x.limit(1, 0, 0, 0, -1);
        Check.due("no plan at all", false, () -> x.solve(true));
        Check.badState("total", () -> x.total(1));
        Check.badState("plan", () -> x.plan(1, 1));
        Check.badState("loosely solved", x::prove);
        x.drop(2);
        x.amount(0, 0, 8, false);
        Check.due("a plan again", true, () -> x.solve(false));
        Check.due("told", "0/1: 1/2 4/1", () -> toldWithWholeSecond(x));
    }

    private static String toldWithWholeSecond(AmountPlanner x) {
        x.limit(0, -1, 0, 0, -4);
        x.limit(0, 1, 0, 0, 4);
        x.solve(false);
        return Check.told(x, 2);
    }

    private static void fractions() {
        AmountPlanner x = new AmountPlanner();
        x.start(4);
        int[] costs = {-7, -9, -6, -8};
        for (int j = 0; j < 4; j++) {
            x.cost(j, costs[j]);
            x.amount(j, -20, 20, false);
        }
        x.limit(9, 8, 7, 6, 50);
        x.limit(3, 9, 1, 5, 40);
        x.limit(7, 2, 9, 8, 61);
        x.limit(-9, 9, 9, 9, 99);
        Check.due("solve", true, () -> x.solve(false));
        String told = Check.told(x, 4);
        Check.due("loosely", true, () -> x.solve(true));
        Check.due("without whole ones it is the same", told, () -> Check.told(x, 4));
    }
}
