/** Promise 8: total. */
public final class TotalTest {
    public static void main(String[] args) {
        itsParts();
        otherParts();
        noTotal();
        greatest();
        Check.close();
    }

    /** Amount 0 is at least -3 / 2, amount 1 at least -2 / 3, amount 2 at least 3 / 2. */
    private static AmountPlanner planner() {
        AmountPlanner x = new AmountPlanner();
        x.start(3);
        x.amount(0, -20, 20, false);
        x.amount(1, -20, 20, false);
        x.cost(0, 3);
        x.cost(1, 2);
        x.cost(2, 1);
        x.limit(-6, 0, 0, 0, 9);
        x.limit(0, -9, 0, 0, 6);
        x.limit(0, 0, -2, 0, -3);
        return x;
    }

    private static void itsParts() {
        Check.sentence(8, "The COST of what was solved: p (which = 0) or q (1).");
        AmountPlanner x = planner();
        // -9 / 2 - 4 / 3 + 2, and with 3 / 2 instead of 2 loosely.
        Check.due("solve", true, () -> x.solve(false));
        Check.due("p", -23, () -> x.total(0));
        Check.due("q", 6, () -> x.total(1));
        Check.due("solve loosely", true, () -> x.solve(true));
        Check.due("p", -13, () -> x.total(0));
        Check.due("q", 3, () -> x.total(1));
        Check.due("p again", -13, () -> x.total(0));
        Check.badState("prove is refused", x::prove);
        Check.due("keeps", false, () -> x.keeps(0, 0, 0, 0, 1));
        x.end(0, 1, 0, 0, 0, 0, 0, 0);
        Check.due("sound", false, () -> x.sound(0, 1));
        Check.due("p stays", -13, () -> x.total(0));
        Check.due("q stays", 3, () -> x.total(1));
        Check.due("solve", true, () -> x.solve(false));
        Check.due("p", -23, () -> x.total(0));
        Check.due("prove", true, x::prove);
        Check.due("p stays", -23, () -> x.total(0));
    }

    private static void otherParts() {
        Check.sentence(8, "IllegalArgumentException: another which;");
        AmountPlanner x = planner();
        for (int which : Check.outside(0, 1)) {
            Check.badArgument("before a solve, which " + which, () -> x.total(which));
        }
        x.solve(false);
        for (int which : Check.outside(0, 1)) {
            Check.badArgument("which " + which, () -> x.total(which));
        }
        Check.due("they changed nothing", "-23/6: -3/2 -2/3 2/1", () -> Check.told(x, 3));
        x.limit(0, 0, 0, 0, -1);
        x.solve(false);
        for (int which : Check.outside(0, 1)) {
            Check.badArgument("without a plan, which " + which, () -> x.total(which));
        }
    }

    private static void noTotal() {
        Check.sentence(8, "IllegalStateException.");
        AmountPlanner fresh = new AmountPlanner();
        AmountPlanner x = planner();
        for (int which = 0; which < 2; which++) {
            int part = which;
            Check.badState("of a new object", () -> fresh.total(part));
            Check.badState("nothing was solved", () -> x.total(part));
            x.solve(false);
            Check.passes("solved", () -> x.total(part));
            x.cost(0, 3);
            Check.badState("not since a change", () -> x.total(part));
            x.solve(true);
            Check.passes("solved loosely", () -> x.total(part));
            x.limit(0, 0, 0, 0, -1);
            Check.badState("not since a change", () -> x.total(part));
            x.solve(false);
            Check.badState("there is no plan", () -> x.total(part));
            x.solve(true);
            Check.badState("there is no plan, loosely", () -> x.total(part));
            x.drop(3);
            Check.badState("not since a change", () -> x.total(part));
        }
    }

    /** Not a sentence of its own: totals of the greatest numbers, none of which may wrap around. */
    private static void greatest() {
        AmountPlanner x = new AmountPlanner();
        x.start(4);
        for (int j = 0; j < 4; j++) {
            x.amount(j, -20, 20, false);
            x.cost(j, j % 2 == 0 ? -9 : 9);
        }
        Check.due("the least of all totals", "-720/1: 20/1 -20/1 20/1 -20/1", () -> Check.solved(x, false, 4));
        for (int j = 0; j < 4; j++) {
            x.amount(j, j % 2 == 0 ? -20 : 20, j % 2 == 0 ? -20 : 20, true);
        }
        Check.due("the greatest of all totals", "720/1: -20/1 20/1 -20/1 20/1", () -> Check.solved(x, false, 4));
        for (int j = 0; j < 4; j++) {
            x.amount(j, -20, 20, false);
        }
        // Four limits of orthogonal rows: the greatest determinant that there can be.
        x.limit(9, 9, 9, 9, 98);
        x.limit(9, -9, 9, -9, 97);
        x.limit(-9, -9, 9, 9, 95);
        x.limit(-9, 9, 9, -9, 91);
        tellCosts(x, 1, 2, -9, 3);
        Check.due("a corner of four limits", "-379/4: 1/4 -1/12 127/12 5/36", () -> Check.solved(x, true, 4));
        for (int i = 0; i < 4; i++) {
            x.drop(0);
        }
        x.limit(9, 8, 7, 9, 98);
        x.limit(9, -9, 8, -9, 97);
        x.limit(-9, -8, 9, 9, 95);
        x.limit(-9, 9, 9, -7, 91);
        tellCosts(x, 0, 0, -9, 0);
        Check.due("a great divisor", "-29124/281: 107395/85986 1060/4777 3236/281 273/562",
                () -> Check.solved(x, false, 4));
        Check.due("prove", true, x::prove);
    }

    private static void tellCosts(AmountPlanner x, int a, int b, int c, int d) {
        x.cost(0, a);
        x.cost(1, b);
        x.cost(2, c);
        x.cost(3, d);
    }
}
