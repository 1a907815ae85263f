/** Promise 4: cost. */
public final class CostTest {
    public static void main(String[] args) {
        AmountPlanner x = new AmountPlanner();
        x.start(2);
        for (int bad : new int[] {-1, 2, 4, Integer.MIN_VALUE, Integer.MAX_VALUE}) {
            Check.badIndex("amount " + bad, () -> x.cost(bad, 0));
            Check.badIndex("the index comes first", () -> x.cost(bad, 10));
        }
        for (int bad : new int[] {-10, 10, Integer.MIN_VALUE, Integer.MAX_VALUE}) {
            Check.badArgument("cost " + bad, () -> x.cost(0, bad));
        }
        x.amount(0, 1, 8, true);
        for (int c = -9; c <= 9; c++) {
            int cost = c;
            Check.passes("cost " + c, () -> x.cost(0, cost));
            Check.badState("a cost forgets", () -> x.total(0));
            Check.due("solve", true, () -> x.solve(false));
            Check.due("total", c < 0 ? 8 * c : c, () -> x.total(0));
        }
        Check.badArgument("refused", () -> x.cost(0, 10));
        Check.due("a refused one changes nothing", "9/1: 1/1 0/1", () -> Check.told(x, 2));
        x.cost(0, 9);
        Check.badState("the same again forgets", () -> x.total(0));
        Check.badState("the same again forgets", x::prove);
        Check.close();
    }
}
