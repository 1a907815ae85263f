/** Promise 3: amount. */
public final class AmountTest {
    public static void main(String[] args) {
        withinTwenty();
        inOrder();
        atMostEightWide();
        whatIsToldHolds();
        noSuchAmount();
        Check.close();
    }

    private static AmountPlanner planner() {
        AmountPlanner x = new AmountPlanner();
        x.start(3);
        return x;
    }

    private static void withinTwenty() {
        Check.sentence(3, "An amount's LEAST and MOST, -20 .. 20,");
        AmountPlanner x = planner();
        for (boolean whole : new boolean[] {false, true}) {
            Check.passes("-20 to -20", () -> x.amount(0, -20, -20, whole));
            Check.passes("-20 to -12", () -> x.amount(0, -20, -12, whole));
            Check.passes("12 to 20", () -> x.amount(0, 12, 20, whole));
            Check.passes("20 to 20", () -> x.amount(0, 20, 20, whole));
            for (int far : Check.outside(-20, 20)) {
                Check.badArgument("both are " + far, () -> x.amount(0, far, far, whole));
                Check.badArgument("the least is " + far, () -> x.amount(0, far, 20, whole));
                Check.badArgument("the least is " + far, () -> x.amount(0, far, -20, whole));
                Check.badArgument("the most is " + far, () -> x.amount(0, -20, far, whole));
                Check.badArgument("the most is " + far, () -> x.amount(0, 20, far, whole));
            }
            Check.badArgument("-21 to -20", () -> x.amount(0, -21, -20, whole));
            Check.badArgument("20 to 21", () -> x.amount(0, 20, 21, whole));
        }
        Check.passes("-20 to 20", () -> x.amount(0, -20, 20, false));
        Check.badArgument("-21 to 20", () -> x.amount(0, -21, 20, false));
        Check.badArgument("-20 to 21", () -> x.amount(0, -20, 21, false));
    }

    private static void inOrder() {
        Check.sentence(3, "the first one not above the second one,");
        AmountPlanner x = planner();
        for (boolean whole : new boolean[] {false, true}) {
            for (int least = -20; least <= 20; least++) {
                int at = least;
                Check.passes(least + " twice", () -> x.amount(1, at, at, whole));
                if (least > -20) {
                    Check.badArgument(least + " and one less", () -> x.amount(1, at, at - 1, whole));
                }
            }
            Check.badArgument("20 to -20", () -> x.amount(1, 20, -20, whole));
            Check.badArgument("far above", () -> x.amount(1, Integer.MAX_VALUE, Integer.MIN_VALUE, whole));
        }
    }

    private static void atMostEightWide() {
        Check.sentence(3, "if it is WHOLE not more than 8 below it.");
        for (int least = -20; least <= 20; least++) {
            AmountPlanner x = planner();
            for (int most = least; most <= 20; most++) {
                int from = least;
                int to = most;
                Check.passes(from + " to " + to, () -> x.amount(2, from, to, false));
                if (to - from <= 8) {
                    Check.passes(from + " to " + to + ", whole", () -> x.amount(2, from, to, true));
                } else {
                    Check.badArgument(from + " to " + to + ", whole", () -> x.amount(2, from, to, true));
                }
            }
        }
        AmountPlanner x = planner();
        // The width of these wraps around to something small.
        Check.badArgument("all numbers", () -> x.amount(2, Integer.MIN_VALUE, Integer.MAX_VALUE, true));
        Check.badArgument("all numbers", () -> x.amount(2, Integer.MIN_VALUE, Integer.MAX_VALUE, false));
        Check.badArgument("from the last to the first",
                () -> x.amount(2, Integer.MAX_VALUE, Integer.MIN_VALUE + 7, true));
    }

    /** Not a sentence of its own: the numbers that are taken are those that count. */
    private static void whatIsToldHolds() {
        int[][] pairs = {{-20, -12}, {-20, -20}, {12, 20}, {20, 20}, {-4, 4}, {0, 0}, {-1, 0}, {0, 1}};
        for (int[] pair : pairs) {
            for (int j = 0; j < 3; j++) {
                AmountPlanner x = planner();
                int at = j;
                x.amount(j, pair[0], pair[1], true);
                Check.due("the least", pair[0], () -> x.solve(false) ? x.plan(at, 0) : 99);
                x.cost(j, -1);
                Check.due("the most", pair[1], () -> x.solve(false) ? x.plan(at, 0) : 99);
                Check.due("the others stay", 0, () -> x.plan((at + 1) % 3, 0) + x.plan((at + 2) % 3, 0));
            }
        }
        AmountPlanner x = planner();
        x.amount(1, -20, 20, false);
        Check.due("any fraction", true, () -> x.keeps(0, -19999, 0, 0, 1000));
        x.amount(1, -20, -12, true);
        Check.due("whole", false, () -> x.keeps(0, -19999, 0, 0, 1000));
    }

    private static void noSuchAmount() {
        Check.sentence(3, "IndexOutOfBoundsException; IllegalArgumentException.");
        for (int n = 1; n <= 4; n++) {
            AmountPlanner x = new AmountPlanner();
            x.start(n);
            for (int j : Check.outside(0, n - 1)) {
                Check.badIndex("amount " + j + " of " + n, () -> x.amount(j, 0, 8, true));
                Check.badIndex("the index comes first", () -> x.amount(j, -21, 0, true));
                Check.badIndex("the index comes first", () -> x.amount(j, 0, 21, true));
                Check.badIndex("the index comes first", () -> x.amount(j, 1, 0, false));
                Check.badIndex("the index comes first", () -> x.amount(j, 0, 9, true));
            }
            for (int j = 0; j < n; j++) {
                int at = j;
                Check.passes("amount " + j + " of " + n, () -> x.amount(at, 0, 8, true));
                Check.badArgument("amount " + j + " of " + n, () -> x.amount(at, 0, 9, true));
            }
        }
    }
}
