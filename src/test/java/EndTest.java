/** Promise 12: end. When an end is sound, stands in TermsTreeTest. */
public final class EndTest {
    public static void main(String[] args) {
        becomesAnEnd();
        countsForTheLimitThatIsThere();
        noSuchNode();
        otherNumbers();
        refusedOnesChangeNothing();
        Check.close();
    }

    private static AmountPlanner planner() {
        AmountPlanner x = new AmountPlanner();
        x.start(1);
        return x;
    }

    /** Limit i says that amount 0 is at least i + 1; twice this is what y i proves of its cost. */
    private static void becomesAnEnd() {
        Check.sentence(12, "A node becomes an END, with w and a y for each number of a limit");
        AmountPlanner x = planner();
        x.cost(0, 2);
        for (int i = 0; i < 6; i++) {
            x.limit(-1, 0, 0, 0, -(i + 1));
        }
        for (int i = 0; i < 6; i++) {
            int[] y = new int[6];
            y[i] = 2;
            Check.passes("y " + i, () -> x.end(0, 1, y[0], y[1], y[2], y[3], y[4], y[5]));
            int bound = 2 * (i + 1);
            Check.due("y " + i, true, () -> x.sound(bound, 1));
            Check.due("y " + i + ", no more", false, () -> x.sound(bound + 1, 1));
        }
        Check.passes("w 2", () -> x.end(0, 2, 4, 0, 0, 0, 0, 0));
        Check.due("w 2", true, () -> x.sound(2, 1));
        Check.due("w 2, no more", false, () -> x.sound(3, 1));
        Check.passes("w 0", () -> x.end(0, 0, 4, 0, 0, 0, 0, 0));
        Check.due("w 0", false, () -> x.sound(-1000000, 1));
        x.fork(0, 0, 3, 1, 1);
        Check.passes("a FORK becomes an END", () -> x.end(0, 1, 0, 0, 0, 0, 0, 0));
        Check.due("it is sound", true, () -> x.sound(0, 1));
        x.solve(false);
        x.end(0, 1, 1, 1, 1, 1, 1, 1);
        Check.due("what was solved stays", 12, () -> x.total(0));
        Check.due("what was solved stays", true, x::prove);
        for (int node = 1; node < 40; node++) {
            int at = node;
            x.fork(0, 0, 3, at, at);
            Check.due("NOTHING", false, () -> x.sound(0, 1));
            Check.passes("node " + node, () -> x.end(at, 1, 0, 0, 0, 0, 0, 0));
            Check.due("an END", true, () -> x.sound(0, 1));
        }
    }

    private static void countsForTheLimitThatIsThere() {
        Check.sentence(12, "(0 .. 5: it counts for the limit that has this number when the TREE is looked at).");
        AmountPlanner x = planner();
        x.end(0, 0, 1, 10, 100, 1000, 10000, 100000);
        x.limit(0, 0, 0, 0, 0);
        Check.due("y 0 for a bound of 0", false, () -> x.sound(0, 1));
        x.drop(0);
        for (int i = 0; i < 6; i++) {
            // All behind it are not there yet, and all before it are less by far.
            Check.due("limit " + i, i, () -> x.limit(0, 0, 0, 0, -1));
            Check.due("y " + i + " counts now", true, () -> x.sound(0, 1));
            x.drop(i);
            x.limit(0, 0, 0, 0, 1);
            Check.due("and against it", false, () -> x.sound(0, 1));
        }
        x.start(1);
        Check.due("no limit is there", false, () -> x.sound(0, 1));
        x.end(0, 1, 1, 1, 1, 1, 1, 1);
        Check.due("w counts without limits", true, () -> x.sound(0, 1));
        x.cost(0, 1);
        x.limit(-1, 0, 0, 0, -3);
        Check.due("with a limit and a cost", true, () -> x.sound(3, 1));
        x.limit(0, 0, 0, 0, 2);
        Check.due("with another one", false, () -> x.sound(2, 1));
        Check.due("with another one", true, () -> x.sound(1, 1));
        x.drop(1);
        Check.due("without it", true, () -> x.sound(3, 1));
    }

    private static void noSuchNode() {
        Check.sentence(12, "IndexOutOfBoundsException;");
        AmountPlanner x = planner();
        for (int node : Check.outside(0, 39)) {
            Check.badIndex("node " + node, () -> x.end(node, 0, 0, 0, 0, 0, 0, 0));
            Check.badIndex("node " + node, () -> x.end(node, 1, 1, 1, 1, 1, 1, 1));
            Check.badIndex("the index comes first", () -> x.end(node, -1, 0, 0, 0, 0, 0, 0));
            Check.badIndex("the index comes first", () -> x.end(node, 0, 0, 0, 0, 0, 0, 1000001));
        }
        Check.passes("node 0", () -> x.end(0, 0, 0, 0, 0, 0, 0, 0));
        Check.passes("node 39", () -> x.end(39, 0, 0, 0, 0, 0, 0, 0));
    }

    private static void otherNumbers() {
        Check.sentence(12, "IllegalArgumentException: one is not 0 .. 1000000.");
        for (int k = 0; k < 7; k++) {
            AmountPlanner x = planner();
            int[] m = new int[7];
            for (int number : Check.outside(0, 1000000)) {
                m[k] = number;
                Check.badArgument("number " + k + " is " + number,
                        () -> x.end(0, m[0], m[1], m[2], m[3], m[4], m[5], m[6]));
            }
            Check.due("none was taken", false, () -> x.sound(-1000000, 1));
            for (int number : new int[] {0, 1, 999999, 1000000}) {
                m[k] = number;
                Check.passes("number " + k + " is " + number,
                        () -> x.end(39, m[0], m[1], m[2], m[3], m[4], m[5], m[6]));
            }
            // For 1000000 and no less: s is at most 0 with y 999999, and above 0 with y 1000000.
            if (k > 0) {
                greatestCounts(k);
            }
        }
        AmountPlanner x = planner();
        int y = 1000000;
        Check.passes("all at the end", () -> x.end(0, y, y, y, y, y, y, y));
        Check.badArgument("the first is above", () -> x.end(0, y + 1, y, y, y, y, y, y));
        Check.badArgument("the last is above", () -> x.end(0, y, y, y, y, y, y, y + 1));
        Check.passes("all at the other end", () -> x.end(0, 0, 0, 0, 0, 0, 0, 0));
        Check.badArgument("the first is below", () -> x.end(0, -1, 0, 0, 0, 0, 0, 0));
        Check.badArgument("the last is below", () -> x.end(0, 0, 0, 0, 0, 0, 0, -1));
    }

    /** The y of one limit against 999999 of another that has as much to say. */
    private static void greatestCounts(int k) {
        AmountPlanner x = planner();
        int other = k == 1 ? 2 : 1;
        for (int i = 1; i <= 6; i++) {
            x.limit(0, 0, 0, 0, i == k ? -1 : i == other ? 1 : 0);
        }
        int[] m = new int[7];
        m[other] = 999999;
        for (int number : new int[] {999998, 999999, 1000000}) {
            m[k] = number;
            x.end(0, m[0], m[1], m[2], m[3], m[4], m[5], m[6]);
            Check.due("y " + number + " against 999999", number == 1000000, () -> x.sound(0, 1));
        }
    }

    private static void refusedOnesChangeNothing() {
        AmountPlanner x = planner();
        x.limit(0, 0, 0, 0, -1);
        x.cost(0, 1);
        x.end(0, 1, 2, 0, 0, 0, 0, 0);
        for (int k = 0; k < 7; k++) {
            int[] m = {7, 7, 7, 7, 7, 7, 7};
            m[k] = -1;
            Check.badArgument("refused", () -> x.end(0, m[0], m[1], m[2], m[3], m[4], m[5], m[6]));
            Check.due("the END is as it was", true, () -> x.sound(2, 1));
            Check.due("the END is as it was", false, () -> x.sound(3, 1));
        }
        x.fork(0, 0, 3, 1, 2);
        Check.badArgument("refused", () -> x.end(0, 1, 0, 0, 0, 0, 0, -1));
        Check.due("the FORK is as it was", false, () -> x.sound(0, 1));
        x.end(1, 1, 0, 0, 0, 0, 0, 0);
        x.end(2, 1, 0, 0, 0, 0, 0, 0);
        Check.badArgument("refused", () -> x.end(2, 1000001, 0, 0, 0, 0, 0, 0));
        Check.due("the FORK is as it was", true, () -> x.sound(0, 1));
    }
}
