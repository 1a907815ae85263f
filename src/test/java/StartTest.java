/** Promise 2: start. */
public final class StartTest {
    public static void main(String[] args) {
        for (int n = 1; n <= 4; n++) {
            amountsOfTheProblem(n);
            eachAmount(n);
            noLimits(n);
        }
        treeStays();
        wrongNumbers();
        Check.close();
    }

    /** All four amounts, six limits, a solve: nothing of it may be left behind. */
    private static AmountPlanner full() {
        AmountPlanner x = new AmountPlanner();
        x.start(4);
        for (int j = 0; j < 4; j++) {
            x.amount(j, -20, 20, false);
            x.cost(j, j % 2 == 0 ? 9 : -9);
        }
        for (int i = 0; i < 6; i++) {
            x.limit(1, 1, 1, 1, -20);
        }
        x.solve(false);
        return x;
    }

    private static void amountsOfTheProblem(int n) {
        Check.sentence(2, "A new problem of n amounts,");
        AmountPlanner x = full();
        Check.passes("start " + n, () -> x.start(n));
        for (int j = 0; j < n; j++) {
            int at = j;
            Check.passes("amount " + j + " of " + n, () -> x.amount(at, 0, 8, true));
            Check.passes("cost " + j + " of " + n, () -> x.cost(at, 0));
        }
        for (int j : Check.outside(0, n - 1)) {
            Check.badIndex("amount " + j + " of " + n, () -> x.amount(j, 0, 8, true));
            Check.badIndex("cost " + j + " of " + n, () -> x.cost(j, 0));
        }
        Check.badState("nothing was solved of it", () -> x.total(0));
        Check.due("solve", true, () -> x.solve(false));
        Check.due("the last amount", 0, () -> x.plan(n - 1, 0));
        Check.badIndex("the first that there is not", () -> x.plan(n, 0));
    }

    private static void eachAmount(int n) {
        Check.sentence(2, "each WHOLE, from 0 to 8, with cost 0;");
        AmountPlanner free = full();
        free.start(n);
        for (int j = 0; j < n; j++) {
            free.amount(j, 1, 1, true);
            Check.due("no cost of " + j, 0, () -> free.solve(true) ? free.total(0) : -1);
        }
        AmountPlanner x = full();
        x.start(n);
        for (int j = 0; j < n; j++) {
            for (int p : new int[] {0, 1000, 7000, 8000, 1, 500, -1, 8001}) {
                boolean fine = p >= 0 && p <= 8000 && p % 1000 == 0;
                int[] a = new int[4];
                a[j] = p;
                Check.due("amount " + j + " as " + p + " / 1000", fine,
                        () -> x.keeps(a[0], a[1], a[2], a[3], 1000));
            }
            int at = j;
            x.cost(j, -1);
            Check.due("the most is 8", 8, () -> x.solve(true) ? x.plan(at, 0) : -1);
            x.cost(j, 0);
            Check.due("the least is 0", 0, () -> x.solve(true) ? x.plan(at, 0) : -1);
        }
    }

    private static void noLimits(int n) {
        Check.sentence(2, "no limits");
        AmountPlanner x = full();
        x.drop(5);
        x.limit(0, 0, 0, 0, -1);
        x.end(0, 0, 0, 0, 0, 0, 0, 1);
        Check.due("the limit counts", true, () -> x.sound(1000000, 1));
        x.start(n);
        for (int i = -1; i <= 6; i++) {
            int at = i;
            Check.badIndex("drop " + i, () -> x.drop(at));
        }
        Check.due("no limit to keep", true, () -> x.keeps(8, 8, 8, 8, 1));
        Check.due("no y counts", false, () -> x.sound(-1000000, 1));
        for (int i = 0; i < 6; i++) {
            Check.due("room for limit " + i, i, () -> x.limit(0, 0, 0, 0, 0));
        }
        Check.badState("and for no more", () -> x.limit(0, 0, 0, 0, 0));
        Check.due("of the old weights nothing is left", true, () -> x.keeps(8, 8, 8, 8, 1));
    }

    private static void treeStays() {
        Check.sentence(2, "(the tree stays).");
        AmountPlanner x = new AmountPlanner();
        x.start(4);
        x.fork(0, 0, 4, 38, 39);
        x.end(38, 1, 0, 0, 0, 0, 0, 0);
        x.end(39, 2, 0, 0, 0, 0, 0, 0);
        for (int n = 1; n <= 4; n++) {
            x.start(n);
            Check.due("start " + n, true, () -> x.sound(0, 1));
            Check.due("start " + n, false, () -> x.sound(1, 1000000));
        }
        x.clear(38);
        x.start(4);
        Check.due("NOTHING stays, too", false, () -> x.sound(-1000000, 1));
    }

    private static void wrongNumbers() {
        Check.sentence(2, "IllegalArgumentException: n is not 1 .. 4.");
        AmountPlanner x = new AmountPlanner();
        for (int n : Check.outside(1, 4)) {
            Check.badArgument("start " + n, () -> x.start(n));
        }
        Check.badIndex("there is one amount still", () -> x.cost(1, 0));
        x.start(2);
        x.cost(1, -2);
        x.solve(false);
        for (int n : Check.outside(1, 4)) {
            Check.badArgument("start " + n, () -> x.start(n));
        }
        Check.due("what was solved stays", "-16/1: 0/1 8/1", () -> Check.told(x, 2));
        Check.passes("start 1", () -> x.start(1));
        Check.passes("start 4", () -> x.start(4));
    }
}
