/** Promise 3: amount. */
public final class AmountTest {
    public static void main(String[] args) {
        AmountPlanner x = new AmountPlanner();
        x.start(3);
        for (int bad : new int[] {-1, 3, 4, Integer.MIN_VALUE, Integer.MAX_VALUE}) {
            Check.badIndex("amount " + bad, () -> x.amount(bad, 0, 1, true));
            Check.badIndex("the index comes first", () -> x.amount(bad, 21, -21, true));
        }
        int low = Integer.MIN_VALUE;
        int high = Integer.MAX_VALUE;
        int[][] bad = {{-21, 0}, {0, 21}, {21, 21}, {-21, -21}, {1, 0}, {20, -20}, {low, high}, {high, low}, {low, low}, {high, high}};
        for (int[] pair : bad) {
            Check.badArgument(pair[0] + " to " + pair[1], () -> x.amount(0, pair[0], pair[1], false));
            Check.badArgument(pair[0] + " to " + pair[1], () -> x.amount(0, pair[0], pair[1], true));
        }
        Check.badArgument("whole, 9 wide", () -> x.amount(1, 0, 9, true));
        Check.badArgument("whole, 40 wide", () -> x.amount(1, -20, 20, true));
        Check.passes("whole, 8 wide", () -> x.amount(1, -20, -12, true));
        Check.passes("whole, 8 wide", () -> x.amount(1, 12, 20, true));
        Check.passes("not whole, 40 wide", () -> x.amount(2, -20, 20, false));
        Check.passes("one value", () -> x.amount(0, 20, 20, true));
        Check.due("solve", true, () -> x.solve(false));
        Check.due("the leasts", "0/1: 20/1 12/1 -20/1", () -> Check.told(x, 3));
        x.cost(1, -1);
        x.cost(2, -1);
        Check.due("solve", true, () -> x.solve(false));
        Check.due("the mosts", "-40/1: 20/1 20/1 20/1", () -> Check.told(x, 3));
        changesAndForgets();
        Check.close();
    }

    private static void changesAndForgets() {
        AmountPlanner x = new AmountPlanner();
        x.start(1);
        x.cost(0, -1);
        x.limit(2, 0, 0, 0, 7);
        x.solve(false);
        Check.due("whole", "-3/1: 3/1", () -> Check.told(x, 1));
        Check.badArgument("refused", () -> x.amount(0, 2, 1, false));
        Check.due("a refused one changes nothing", "-3/1: 3/1", () -> Check.told(x, 1));
        Check.due("nor what is whole", false, () -> x.keeps(7, 0, 0, 0, 2));
        x.amount(0, 0, 8, false);
        Check.badState("a change forgets", () -> x.total(0));
        x.solve(false);
        Check.due("any fraction", "-7/2: 7/2", () -> Check.told(x, 1));
        x.amount(0, 0, 8, false);
        Check.badState("the same again forgets, too", () -> x.plan(0, 0));
        Check.badState("the same again forgets, too", x::prove);
    }
}
