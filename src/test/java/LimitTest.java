/** Promise 5: limit. */
public final class LimitTest {
    public static void main(String[] args) {
        itsNumber();
        weightsWithinNine();
        zeroWhereThereIsNoAmount();
        boundsWithinNinetyNine();
        sixAtMost();
        Check.close();
    }

    private static AmountPlanner planner(int n) {
        AmountPlanner x = new AmountPlanner();
        x.start(n);
        return x;
    }

    private static void itsNumber() {
        Check.sentence(5, "A limit more: its number.");
        AmountPlanner x = planner(2);
        x.cost(0, -1);
        x.cost(1, -1);
        for (int i = 0; i < 6; i++) {
            int number = i;
            Check.due("limit " + i, i, () -> x.limit(1, 1, 0, 0, 12 - number));
            Check.due("it is kept", -(12 - i), () -> x.solve(false) ? x.total(0) : 99);
        }
        x.drop(2);
        Check.due("the sixth again", 5, () -> x.limit(1, 1, 0, 0, 1));
        x.drop(5);
        x.drop(0);
        Check.due("the fifth again", 4, () -> x.limit(1, 1, 0, 0, 0));
        Check.due("it is kept", 0, () -> x.solve(false) ? x.total(0) : 99);
        Check.due("the same once more is one more", 5, () -> x.limit(1, 1, 0, 0, 0));
        x.start(2);
        Check.due("the first of a new problem", 0, () -> x.limit(0, 0, 0, 0, 0));
    }

    private static void weightsWithinNine() {
        Check.sentence(5, "IllegalArgumentException: a weight is not -9 .. 9,");
        for (int n = 1; n <= 4; n++) {
            for (int j = 0; j < n; j++) {
                AmountPlanner x = planner(n);
                int[] w = new int[4];
                for (int weight : Check.outside(-9, 9)) {
                    w[j] = weight;
                    Check.badArgument("weight " + weight + " of " + j, () -> x.limit(w[0], w[1], w[2], w[3], 0));
                }
                for (int weight = -9; weight <= 9; weight++) {
                    w[j] = weight;
                    int bound = weight;
                    Check.due("weight " + weight + " of " + j, 0, () -> x.limit(w[0], w[1], w[2], w[3], bound));
                    int[] a = new int[4];
                    a[j] = 1;
                    Check.due("once the weight is the bound", true, () -> x.keeps(a[0], a[1], a[2], a[3], 1));
                    a[j] = 2;
                    Check.due("twice", weight <= 0, () -> x.keeps(a[0], a[1], a[2], a[3], 1));
                    a[j] = 0;
                    Check.due("not once", weight >= 0, () -> x.keeps(a[0], a[1], a[2], a[3], 1));
                    x.drop(0);
                }
            }
        }
        AmountPlanner x = planner(4);
        Check.due("all at the end", 0, () -> x.limit(9, -9, 9, -9, 0));
        Check.badArgument("one above", () -> x.limit(9, -9, 10, -9, 0));
        Check.badArgument("one below", () -> x.limit(9, -9, 9, -10, 0));
    }

    private static void zeroWhereThereIsNoAmount() {
        Check.sentence(5, "or not 0 where there is no such amount,");
        for (int n = 1; n <= 3; n++) {
            AmountPlanner x = planner(4);
            x.limit(9, 9, 9, 9, 9);
            x.start(n);
            for (int j = n; j < 4; j++) {
                int[] w = new int[4];
                for (int weight = -10; weight <= 10; weight++) {
                    w[j] = weight;
                    if (weight == 0) {
                        Check.due("weight 0", 0, () -> x.limit(w[0], w[1], w[2], w[3], 0));
                        x.drop(0);
                    } else {
                        Check.badArgument("weight " + weight + " of " + j + ", which is not there",
                                () -> x.limit(w[0], w[1], w[2], w[3], 0));
                    }
                }
            }
        }
        AmountPlanner x = planner(2);
        Check.badArgument("two that are not 0", () -> x.limit(1, 1, 1, -1, 0));
        Check.due("none that is not 0", 0, () -> x.limit(1, 1, 0, 0, 0));
        x.start(3);
        Check.due("now there is an amount 2", 0, () -> x.limit(1, 1, 1, 0, 0));
        Check.badArgument("but no amount 3", () -> x.limit(1, 1, 1, 1, 0));
    }

    private static void boundsWithinNinetyNine() {
        Check.sentence(5, "or the bound not -99 .. 99;");
        AmountPlanner x = planner(4);
        for (int bound : Check.outside(-99, 99)) {
            Check.badArgument("bound " + bound, () -> x.limit(1, 0, 0, 0, bound));
            Check.badArgument("bound " + bound, () -> x.limit(0, 0, 0, 0, bound));
        }
        Check.badIndex("none was taken", () -> x.drop(0));
        Check.due("bound -99", 0, () -> x.limit(-9, -9, 0, 0, -99));
        Check.due("it is kept at -99", true, () -> x.keeps(3, 8, 0, 0, 1));
        Check.due("and not above", false, () -> x.keeps(2, 8, 0, 0, 1));
        x.drop(0);
        Check.due("bound 99", 0, () -> x.limit(9, 9, 0, 0, 99));
        Check.due("it is kept at 99", true, () -> x.keeps(3, 8, 0, 0, 1));
        Check.due("and not above", false, () -> x.keeps(4, 8, 0, 0, 1));
    }

    private static void sixAtMost() {
        Check.sentence(5, "IllegalStateException.");
        AmountPlanner x = planner(2);
        x.cost(0, -1);
        x.cost(1, -1);
        for (int i = 0; i < 6; i++) {
            Check.due("limit " + i, i, () -> x.limit(1, 1, 0, 0, 7));
        }
        Check.due("solve", "-7/1: 0/1 7/1", () -> Check.solved(x, false, 2));
        Check.badState("a seventh", () -> x.limit(1, 1, 0, 0, 1));
        Check.badState("a seventh that is there", () -> x.limit(1, 1, 0, 0, 7));
        Check.badState("a seventh of nothing", () -> x.limit(0, 0, 0, 0, 0));
        Check.badArgument("the weight comes first", () -> x.limit(10, 1, 0, 0, 1));
        Check.badArgument("the weight comes first", () -> x.limit(0, -10, 0, 0, 1));
        Check.badArgument("the weight comes first", () -> x.limit(0, 0, 1, 0, 1));
        Check.badArgument("the weight comes first", () -> x.limit(0, 0, 0, -1, 1));
        Check.badArgument("the bound comes first", () -> x.limit(0, 0, 0, 0, 100));
        Check.badArgument("the bound comes first", () -> x.limit(0, 0, 0, 0, -100));
        Check.due("they changed nothing", "-7/1: 0/1 7/1", () -> Check.told(x, 2));
        Check.due("they changed nothing", true, x::prove);
        Check.due("six are left", 5, () -> x.drop(5));
        Check.due("there is room for one", 5, () -> x.limit(1, 1, 0, 0, 6));
        Check.badState("and for no other", () -> x.limit(1, 1, 0, 0, 5));
        Check.due("the one counts", "-6/1: 0/1 6/1", () -> Check.solved(x, false, 2));
    }
}
