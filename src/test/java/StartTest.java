/** Promise 2: start. */
public final class StartTest {
    public static void main(String[] args) {
        AmountPlanner x = new AmountPlanner();
        for (int bad : new int[] {0, 5, -1, Integer.MIN_VALUE, Integer.MAX_VALUE}) {
            Check.badArgument("start " + bad, () -> x.start(bad));
        }
        for (int n = 1; n <= 4; n++) {
            startsAnew(n);
        }
        treeStays();
        refusedChangesNothing();
        Check.close();
    }

    private static void startsAnew(int n) {
        AmountPlanner x = new AmountPlanner();
        x.start(4);
        for (int j = 0; j < 4; j++) {
            x.amount(j, -20, 20, false);
            x.cost(j, 9);
            x.limit(1, 1, 1, 1, -20);
        }
        x.solve(false);
        x.start(n);
        Check.badState("start " + n + " forgets what was solved", () -> x.total(0));
        Check.badIndex("start " + n + " has no limit", () -> x.drop(0));
        Check.badIndex("start " + n + " has no such amount", () -> x.amount(n, 0, 0, true));
        Check.due("solve", true, () -> x.solve(false));
        Check.due("cost 0", 0, () -> x.total(0));
        for (int j = 0; j < n; j++) {
            int at = j;
            Check.due("the least is 0", 0, () -> x.plan(at, 0));
            x.cost(j, -1);
            Check.due("solve", true, () -> x.solve(true));
            Check.due("the most is 8", 8, () -> x.plan(at, 0));
            x.cost(j, 0);
            Check.due("solve", true, () -> x.solve(true));
        }
        Check.due("all whole", true, () -> x.keeps(8, 8, 8, 8, 1));
        for (int j = 0; j < n; j++) {
            int[] half = {2, 2, 2, 2};
            half[j] = 1;
            Check.due("amount " + j + " is whole", false,
                    () -> x.keeps(half[0], half[1], half[2], half[3], 2));
        }
        Check.due("the first limit is 0", 0, () -> x.limit(1, 0, 0, 0, 9));
    }

    private static void treeStays() {
        AmountPlanner x = new AmountPlanner();
        x.end(0, 1, 0, 0, 0, 0, 0, 0);
        x.start(3);
        Check.due("the tree stays", true, () -> x.sound(0, 1));
    }

    private static void refusedChangesNothing() {
        AmountPlanner x = new AmountPlanner();
        x.start(2);
        x.cost(1, -2);
        x.solve(false);
        Check.badArgument("start 5", () -> x.start(5));
        Check.due("what was solved stays", "-16/1: 0/1 8/1", () -> Check.told(x, 2));
        Check.passes("start 2", () -> x.start(2));
        Check.badState("start forgets", () -> x.total(0));
        Check.badState("start forgets", x::prove);
    }
}
