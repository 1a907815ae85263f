/** Promise 4: cost. */
public final class CostTest {
    public static void main(String[] args) {
        withinNine();
        whatIsThrown();
        Check.close();
    }

    private static void withinNine() {
        Check.sentence(4, "An amount's cost, -9 .. 9.");
        for (int n = 1; n <= 4; n++) {
            for (int j = 0; j < n; j++) {
                AmountPlanner x = new AmountPlanner();
                x.start(n);
                int at = j;
                x.amount(j, 1, 8, true);
                for (int c = -9; c <= 9; c++) {
                    int cost = c;
                    Check.passes("cost " + c, () -> x.cost(at, cost));
                    Check.due("it counts", c < 0 ? 8 * c : c, () -> x.solve(false) ? x.total(0) : 999);
                }
            }
        }
    }

    private static void whatIsThrown() {
        Check.sentence(4, "IndexOutOfBoundsException; IllegalArgumentException.");
        for (int n = 1; n <= 4; n++) {
            AmountPlanner x = new AmountPlanner();
            x.start(n);
            for (int j : Check.outside(0, n - 1)) {
                Check.badIndex("amount " + j + " of " + n, () -> x.cost(j, 0));
                Check.badIndex("the index comes first", () -> x.cost(j, 10));
                Check.badIndex("the index comes first", () -> x.cost(j, -10));
            }
            for (int c : Check.outside(-9, 9)) {
                int last = n - 1;
                Check.badArgument("cost " + c, () -> x.cost(last, c));
                Check.badArgument("cost " + c, () -> x.cost(0, c));
            }
            x.cost(0, 9);
            x.solve(false);
            Check.badArgument("refused", () -> x.cost(0, 10));
            Check.due("what was solved stays", 0, () -> x.total(0));
            x.amount(0, 1, 1, true);
            Check.due("the cost stays", 9, () -> x.solve(false) ? x.total(0) : 999);
        }
    }
}
