/** Promise 12: end. */
public final class EndTest {
    public static void main(String[] args) {
        AmountPlanner x = new AmountPlanner();
        int low = Integer.MIN_VALUE;
        int high = Integer.MAX_VALUE;
        for (int bad : new int[] {-1, 40, low, high}) {
            Check.badIndex("node " + bad, () -> x.end(bad, 0, 0, 0, 0, 0, 0, 0));
            Check.badIndex("the index comes first", () -> x.end(bad, -1, -1, 0, 0, 0, 0, 0));
        }
        x.end(0, 1, 0, 0, 0, 0, 0, 0);
        for (int k = 0; k < 7; k++) {
            for (int bad : new int[] {-1, 1000001, low, high}) {
                int[] y = new int[7];
                y[k] = bad;
                Check.badArgument("number " + bad + " at " + k,
                        () -> x.end(0, y[0], y[1], y[2], y[3], y[4], y[5], y[6]));
            }
            int[] y = new int[7];
            y[k] = 1000000;
            Check.passes("1000000 at " + k, () -> x.end(39, y[0], y[1], y[2], y[3], y[4], y[5], y[6]));
        }
        Check.due("refused ones change nothing", true, () -> x.sound(0, 1));
        eachForItsLimit();
        limitsThatAreNotThere();
        afterFork();
        Check.close();
    }

    /** Limit i says that amount 0 is at least i + 1; y i alone makes this the bound. */
    private static void eachForItsLimit() {
        AmountPlanner x = new AmountPlanner();
        x.start(2);
        x.cost(0, 2);
        for (int i = 0; i < 6; i++) {
            x.limit(-1, 0, 0, 0, -(i + 1));
        }
        for (int i = 0; i < 6; i++) {
            int[] y = new int[6];
            y[i] = 2;
            x.end(0, 1, y[0], y[1], y[2], y[3], y[4], y[5]);
            int bound = 2 * (i + 1);
            Check.due("y " + i, true, () -> x.sound(bound, 1));
            Check.due("y " + i + ", no more", false, () -> x.sound(bound + 1, 1));
        }
    }

    private static void limitsThatAreNotThere() {
        AmountPlanner x = new AmountPlanner();
        x.start(1);
        x.cost(0, 1);
        x.end(0, 1, 1, 1, 1, 1, 1, 1);
        Check.due("no limit, no y", true, () -> x.sound(0, 1));
        x.limit(-1, 0, 0, 0, -3);
        Check.due("it counts when it is there", true, () -> x.sound(3, 1));
        x.limit(0, 0, 0, 0, 2);
        Check.due("and so does the next one", false, () -> x.sound(3, 1));
        Check.due("and so does the next one", true, () -> x.sound(1, 1));
        x.start(1);
        Check.due("start takes them away", true, () -> x.sound(0, 1));
        Check.due("start takes the cost away", false, () -> x.sound(1, 1));
    }

    private static void afterFork() {
        AmountPlanner x = new AmountPlanner();
        x.fork(0, 0, 0, 1, 2);
        x.end(0, 1, 0, 0, 0, 0, 0, 0);
        Check.due("a fork becomes an end", true, () -> x.sound(0, 1));
        x.end(0, 0, 0, 0, 0, 0, 0, 0);
        Check.due("an end becomes another", false, () -> x.sound(0, 1));
        x.solve(false);
        x.end(0, 1, 0, 0, 0, 0, 0, 0);
        Check.due("what was solved stays", 0, () -> x.total(0));
        Check.due("prove", true, x::prove);
    }
}
