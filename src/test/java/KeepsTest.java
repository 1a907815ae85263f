/** Promise 10: keeps. */
public final class KeepsTest {
    public static void main(String[] args) {
        AmountPlanner x = new AmountPlanner();
        x.start(2);
        x.amount(0, -3, 5, true);
        x.amount(1, -20, 20, false);
        x.limit(2, 3, 0, 0, 4);
        Check.due("inside", true, () -> x.keeps(1, 0, 0, 0, 1));
        Check.due("on the limit", true, () -> x.keeps(3, 2, 0, 0, 3));
        Check.due("above the limit", false, () -> x.keeps(3, 3, 0, 0, 3));
        Check.due("a half of a whole one", false, () -> x.keeps(1, 0, 0, 0, 2));
        Check.due("below 0, a half", false, () -> x.keeps(-1, 0, 0, 0, 2));
        Check.due("a half of the other", true, () -> x.keeps(2, 1, 0, 0, 2));
        Check.due("the leasts", true, () -> x.keeps(-3000, -20000, 0, 0, 1000));
        Check.due("below the least", false, () -> x.keeps(-4, 0, 0, 0, 1));
        Check.due("the most", true, () -> x.keeps(5, -2, 0, 0, 1));
        Check.due("above the most", false, () -> x.keeps(6, -20, 0, 0, 1));
        Check.due("just above the most", false, () -> x.keeps(-3 * 999, 19981, 0, 0, 999));
        Check.due("far below", false, () -> x.keeps(0, -20000, 0, 0, 999));
        Check.due("those that there are not do not count", true, () -> x.keeps(0, 0, 20000, -20000, 1));
        x.solve(true);
        Check.due("never loosely", false, () -> x.keeps(1, 0, 0, 0, 2));
        wrong(x);
        needsNoSolving();
        Check.close();
    }

    private static void wrong(AmountPlanner x) {
        for (int bad : new int[] {0, -1, 1001, Integer.MIN_VALUE, Integer.MAX_VALUE}) {
            Check.badArgument("divisor " + bad, () -> x.keeps(0, 0, 0, 0, bad));
        }
        for (int j = 0; j < 4; j++) {
            for (int bad : new int[] {-20001, 20001, Integer.MIN_VALUE, Integer.MAX_VALUE}) {
                int[] p = new int[4];
                p[j] = bad;
                Check.badArgument("number " + bad + " at " + j, () -> x.keeps(p[0], p[1], p[2], p[3], 1));
            }
        }
        Check.due("the greatest numbers", false, () -> x.keeps(20000, 20000, 20000, 20000, 1));
        Check.due("the least numbers", false, () -> x.keeps(-20000, -20000, -20000, -20000, 1));
        Check.due("the greatest divisor", true, () -> x.keeps(0, 1, 0, 0, 1000));
    }

    private static void needsNoSolving() {
        AmountPlanner x = new AmountPlanner();
        x.start(4);
        x.limit(1, 1, 1, 1, 10);
        x.limit(-1, -1, -1, -1, -10);
        Check.due("a sum of 10", true, () -> x.keeps(1, 2, 3, 4, 1));
        Check.due("told in thirds", true, () -> x.keeps(3, 6, 9, 12, 3));
        Check.due("a sum of 9", false, () -> x.keeps(1, 2, 3, 3, 1));
        Check.due("a sum of 11", false, () -> x.keeps(1, 2, 3, 5, 1));
        Check.badState("nothing was solved by it", () -> x.total(0));
    }
}
