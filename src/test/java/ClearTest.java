/** Promise 13: clear. */
public final class ClearTest {
    public static void main(String[] args) {
        AmountPlanner x = new AmountPlanner();
        for (int bad : new int[] {-1, 40, Integer.MIN_VALUE, Integer.MAX_VALUE}) {
            Check.badIndex("node " + bad, () -> x.clear(bad));
        }
        x.start(1);
        x.end(0, 1, 0, 0, 0, 0, 0, 0);
        Check.due("an end", true, () -> x.sound(0, 1));
        Check.passes("clear another", () -> x.clear(39));
        Check.due("stays", true, () -> x.sound(0, 1));
        Check.passes("clear 0", () -> x.clear(0));
        Check.due("nothing", false, () -> x.sound(-1000000, 1));
        Check.passes("clear nothing", () -> x.clear(0));
        x.fork(0, 0, 4, 38, 39);
        x.end(38, 1, 0, 0, 0, 0, 0, 0);
        x.end(39, 1, 0, 0, 0, 0, 0, 0);
        Check.due("a fork", true, () -> x.sound(0, 1));
        x.clear(39);
        Check.due("its second is nothing", false, () -> x.sound(-1000000, 1));
        x.end(39, 1, 0, 0, 0, 0, 0, 0);
        x.clear(38);
        Check.due("its first is nothing", false, () -> x.sound(-1000000, 1));
        x.end(38, 1, 0, 0, 0, 0, 0, 0);
        Check.due("a fork again", true, () -> x.sound(0, 1));
        x.clear(0);
        Check.due("nothing", false, () -> x.sound(0, 1));
        x.solve(false);
        x.clear(1);
        Check.due("what was solved stays", 0, () -> x.total(0));
        Check.due("prove", true, x::prove);
        Check.close();
    }
}
