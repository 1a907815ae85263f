/** Promise 5: limit. */
public final class LimitTest {
    public static void main(String[] args) {
        wrongWeights();
        wrongBounds();
        sixAtMost();
        AmountPlanner x = new AmountPlanner();
        x.start(4);
        for (int j = 0; j < 4; j++) {
            x.amount(j, -20, -12, true);
        }
        Check.due("the greatest numbers", 0, () -> x.limit(9, -9, 9, -9, 99));
        Check.due("the least numbers", 1, () -> x.limit(-9, 9, -9, 9, -99));
        Check.due("a limit of nothing", 2, () -> x.limit(0, 0, 0, 0, 0));
        Check.due("solve", true, () -> x.solve(false));
        Check.due("both are kept", "0/1: -17/1 -20/1 -12/1 -20/1", () -> Check.told(x, 4));
        Check.due("a limit of nothing that can't be", 3, () -> x.limit(0, 0, 0, 0, -1));
        Check.due("solve", false, () -> x.solve(false));
        Check.due("solve loosely", false, () -> x.solve(true));
        Check.close();
    }

    private static void wrongWeights() {
        for (int n = 1; n <= 4; n++) {
            AmountPlanner x = new AmountPlanner();
            x.start(n);
            for (int j = 0; j < 4; j++) {
                for (int bad : new int[] {-10, 10, Integer.MIN_VALUE, Integer.MAX_VALUE, 1, -1}) {
                    int[] w = new int[4];
                    w[j] = bad;
                    boolean fine = j < n && bad >= -9 && bad <= 9;
                    if (fine) {
                        Check.passes("weight " + bad, () -> x.limit(w[0], w[1], w[2], w[3], 0));
                        x.drop(0);
                    } else {
                        Check.badArgument("weight " + bad + " of " + j + " with " + n,
                                () -> x.limit(w[0], w[1], w[2], w[3], 0));
                    }
                }
            }
        }
    }

    private static void wrongBounds() {
        AmountPlanner x = new AmountPlanner();
        for (int bad : new int[] {-100, 100, Integer.MIN_VALUE, Integer.MAX_VALUE}) {
            Check.badArgument("bound " + bad, () -> x.limit(1, 0, 0, 0, bad));
        }
        Check.due("bound -99", 0, () -> x.limit(1, 0, 0, 0, -99));
        Check.due("bound 99", 1, () -> x.limit(1, 0, 0, 0, 99));
    }

    private static void sixAtMost() {
        AmountPlanner x = new AmountPlanner();
        x.start(2);
        x.cost(0, -1);
        x.cost(1, -1);
        for (int i = 0; i < 6; i++) {
            int number = i;
            Check.due("limit " + i, i, () -> x.limit(1, 1, 0, 0, 12 - number));
            x.solve(false);
            Check.due("kept", -(12 - i), () -> x.total(0));
        }
        Check.badState("a seventh", () -> x.limit(1, 1, 0, 0, 1));
        Check.badArgument("the argument comes first", () -> x.limit(10, 1, 0, 0, 1));
        Check.badArgument("the argument comes first", () -> x.limit(0, 0, 1, 0, 1));
        Check.badArgument("the argument comes first", () -> x.limit(0, 0, 0, 0, 100));
        Check.due("refused ones change nothing", "-7/1: 0/1 7/1", () -> Check.told(x, 2));
        Check.due("prove", true, x::prove);
        x.drop(5);
        Check.due("another sixth", 5, () -> x.limit(0, 0, 0, 0, 0));
        Check.badState("a limit forgets", () -> x.total(0));
        Check.badState("a limit forgets", x::prove);
    }
}
