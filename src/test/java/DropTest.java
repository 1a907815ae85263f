/** Promise 6: drop. */
public final class DropTest {
    public static void main(String[] args) {
        AmountPlanner x = new AmountPlanner();
        x.start(1);
        x.cost(0, -1);
        for (int bound = 1; bound <= 6; bound++) {
            x.limit(1, 0, 0, 0, bound);
        }
        x.solve(false);
        for (int bad : new int[] {-1, 6, 7, Integer.MIN_VALUE, Integer.MAX_VALUE}) {
            Check.badIndex("drop " + bad, () -> x.drop(bad));
        }
        Check.due("refused ones change nothing", "-1/1: 1/1", () -> Check.told(x, 1));
        Check.due("drop 1", 5, () -> x.drop(1));
        Check.badState("a drop forgets", () -> x.total(0));
        Check.badState("a drop forgets", x::prove);
        Check.badIndex("drop 5", () -> x.drop(5));
        Check.due("drop 0", 4, () -> x.drop(0));
        x.solve(false);
        Check.due("those behind it move up", "-3/1: 3/1", () -> Check.told(x, 1));
        Check.due("drop the last", 3, () -> x.drop(3));
        Check.due("a new one goes behind", 3, () -> x.limit(1, 0, 0, 0, 2));
        x.solve(false);
        Check.due("it counts", "-2/1: 2/1", () -> Check.told(x, 1));
        Check.due("drop", 3, () -> x.drop(3));
        Check.due("drop", 2, () -> x.drop(0));
        Check.due("drop", 1, () -> x.drop(0));
        x.solve(false);
        Check.due("one is left", "-5/1: 5/1", () -> Check.told(x, 1));
        Check.due("drop", 0, () -> x.drop(0));
        Check.badIndex("none is left", () -> x.drop(0));
        x.solve(false);
        Check.due("no limit", "-8/1: 8/1", () -> Check.told(x, 1));
        treeStays();
        Check.close();
    }

    private static void treeStays() {
        AmountPlanner x = new AmountPlanner();
        x.start(2);
        x.limit(1, 0, 0, 0, 5);
        x.limit(0, -1, 0, 0, -7);
        x.cost(1, 1);
        x.end(0, 1, 0, 1, 0, 0, 0, 0);
        Check.due("y 1 is for limit 1", true, () -> x.sound(7, 1));
        x.drop(0);
        Check.due("there is no limit 1 now", false, () -> x.sound(1, 1));
        Check.due("and y 1 counts for nothing", true, () -> x.sound(0, 1));
        x.end(0, 1, 1, 0, 0, 0, 0, 0);
        Check.due("limit 1 is limit 0 now", true, () -> x.sound(7, 1));
    }
}
