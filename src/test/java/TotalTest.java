/** Promise 8: total. */
public final class TotalTest {
    public static void main(String[] args) {
        AmountPlanner x = new AmountPlanner();
        x.start(3);
        Check.badState("nothing was solved", () -> x.total(0));
        Check.badState("nothing was solved", () -> x.total(1));
        for (int bad : new int[] {-1, 2, Integer.MIN_VALUE, Integer.MAX_VALUE}) {
            Check.badArgument("the argument comes first", () -> x.total(bad));
        }
        x.amount(0, -20, 20, false);
        x.amount(1, -20, 20, false);
        x.cost(0, 3);
        x.cost(1, 2);
        x.cost(2, 1);
        x.limit(-6, 0, 0, 0, 9);
        x.limit(0, -9, 0, 0, 6);
        x.limit(0, 0, -2, 0, -3);
        Check.due("solve", true, () -> x.solve(false));
        Check.due("p", -23, () -> x.total(0));
        Check.due("q", 6, () -> x.total(1));
        Check.due("solve loosely", true, () -> x.solve(true));
        Check.due("p", -13, () -> x.total(0));
        Check.due("q", 3, () -> x.total(1));
        for (int bad : new int[] {-1, 2, Integer.MIN_VALUE, Integer.MAX_VALUE}) {
            Check.badArgument("which " + bad, () -> x.total(bad));
        }
        Check.due("p stays", -13, () -> x.total(0));
        Check.due("proving is refused, and changes nothing", "throws.IllegalStateException", x::prove);
        Check.due("q stays", 3, () -> x.total(1));
        Check.due("keeps changes nothing", false, () -> x.keeps(0, 0, 0, 0, 1));
        x.end(0, 1, 0, 0, 0, 0, 0, 0);
        Check.due("nor does sound", false, () -> x.sound(0, 1));
        Check.due("p stays", -13, () -> x.total(0));
        x.limit(1, 0, 0, 0, -20);
        Check.badState("a change forgets", () -> x.total(0));
        Check.due("no plan", false, () -> x.solve(false));
        Check.badState("there is no plan", () -> x.total(0));
        Check.badArgument("the argument comes first", () -> x.total(2));
        greatest();
        zero();
        Check.close();
    }

    private static void greatest() {
        AmountPlanner x = new AmountPlanner();
        x.start(4);
        for (int j = 0; j < 4; j++) {
            x.amount(j, -20, 20, false);
            x.cost(j, j % 2 == 0 ? -9 : 9);
        }
        x.solve(false);
        Check.due("the least of all totals", "-720/1: 20/1 -20/1 20/1 -20/1", () -> Check.told(x, 4));
        // Four limits of orthogonal rows: the greatest determinant that there can be.
        x.limit(9, 9, 9, 9, 98);
        x.limit(9, -9, 9, -9, 97);
        x.limit(-9, -9, 9, 9, 95);
        x.limit(-9, 9, 9, -9, 91);
        tellCosts(x, 1, 2, -9, 3);
        x.solve(true);
        Check.due("a corner of four limits", "-379/4: 1/4 -1/12 127/12 5/36", () -> Check.told(x, 4));
        x.drop(0);
        x.drop(0);
        x.drop(0);
        x.drop(0);
        x.limit(9, 8, 7, 9, 98);
        x.limit(9, -9, 8, -9, 97);
        x.limit(-9, -8, 9, 9, 95);
        x.limit(-9, 9, 9, -7, 91);
        tellCosts(x, 0, 0, -9, 0);
        x.solve(false);
        Check.due("a great divisor", "-29124/281: 107395/85986 1060/4777 3236/281 273/562",
                () -> Check.told(x, 4));
        Check.due("prove", true, x::prove);
    }

    private static void tellCosts(AmountPlanner x, int a, int b, int c, int d) {
        x.cost(0, a);
        x.cost(1, b);
        x.cost(2, c);
        x.cost(3, d);
    }

    private static void zero() {
        AmountPlanner x = new AmountPlanner();
        x.amount(0, -20, 20, false);
        x.cost(0, 7);
        x.limit(-9, 0, 0, 0, 0);
        x.solve(false);
        Check.due("nothing is 0 / 1", "0/1: 0/1", () -> Check.told(x, 1));
    }
}
