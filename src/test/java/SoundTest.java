/** Promise 14: sound. */
public final class SoundTest {
    public static void main(String[] args) {
        wrong();
        forks();
        wZero();
        exactBounds();
        greatestNumbers();
        fullTree();
        Check.close();
    }

    private static void wrong() {
        AmountPlanner x = new AmountPlanner();
        x.end(0, 1, 0, 0, 0, 0, 0, 0);
        int low = Integer.MIN_VALUE;
        int high = Integer.MAX_VALUE;
        for (int bad : new int[] {-1000001, 1000001, low, high}) {
            Check.badArgument("p " + bad, () -> x.sound(bad, 1));
        }
        for (int bad : new int[] {0, -1, 1000001, low, high}) {
            Check.badArgument("q " + bad, () -> x.sound(0, bad));
        }
        Check.due("edges", true, () -> x.sound(-1000000, 1));
        Check.due("edges", true, () -> x.sound(-1000000, 1000000));
        Check.due("edges", false, () -> x.sound(1000000, 1000000));
        Check.due("edges", false, () -> x.sound(1000000, 1));
        Check.due("edges", true, () -> x.sound(0, 1000000));
    }

    private static void forks() {
        AmountPlanner x = new AmountPlanner();
        x.start(2);
        x.amount(0, -3, 5, true);
        x.end(1, 1, 0, 0, 0, 0, 0, 0);
        int[][] cases = {{-4, 0}, {-3, 1}, {4, 1}, {5, 0}, {20, 0}, {-20, 0}};
        for (int[] row : cases) {
            x.fork(0, 0, row[0], 1, 1);
            Check.due("v " + row[0], row[1] == 1, () -> x.sound(0, 1));
        }
        x.fork(0, 2, 0, 1, 1);
        Check.due("no such amount", false, () -> x.sound(0, 1));
        x.start(3);
        Check.due("now there is", true, () -> x.sound(0, 1));
        x.amount(2, 0, 8, false);
        Check.due("but not a whole one", false, () -> x.sound(0, 1));
        x.amount(2, 0, 0, true);
        Check.due("and not with one value", false, () -> x.sound(0, 1));
        x.amount(2, 0, 1, true);
        Check.due("with two", true, () -> x.sound(0, 1));
        x.fork(1, 2, 0, 2, 2);
        x.end(2, 1, 0, 0, 0, 0, 0, 0);
        Check.due("not twice", false, () -> x.sound(0, 1));
    }

    private static void wZero() {
        AmountPlanner x = new AmountPlanner();
        x.start(1);
        x.limit(1, 0, 0, 0, -1);
        x.end(0, 0, 1, 0, 0, 0, 0, 0);
        Check.due("s is 1: there is no plan", true, () -> x.sound(1000000, 1));
        x.drop(0);
        x.limit(1, 0, 0, 0, 0);
        Check.due("s is 0", false, () -> x.sound(-1000000, 1));
        x.drop(0);
        x.limit(-1, 0, 0, 0, -9);
        Check.due("s is 1: the most is 8", true, () -> x.sound(1000000, 1));
        x.cost(0, 9);
        Check.due("the cost does not count", true, () -> x.sound(1000000, 1));
        x.end(0, 0, 0, 0, 0, 0, 0, 0);
        Check.due("all 0", false, () -> x.sound(-1000000, 1));
    }

    private static void exactBounds() {
        AmountPlanner x = new AmountPlanner();
        x.start(1);
        x.cost(0, 1);
        x.limit(-3, 0, 0, 0, -1);
        x.end(0, 3, 1, 0, 0, 0, 0, 0);
        Check.due("1 / 3", true, () -> x.sound(1, 3));
        Check.due("333333 / 1000000", true, () -> x.sound(333333, 1000000));
        Check.due("333334 / 1000000", false, () -> x.sound(333334, 1000000));
        Check.due("2 / 6", true, () -> x.sound(2, 6));
        x.end(0, 999999, 333333, 0, 0, 0, 0, 0);
        Check.due("great numbers", true, () -> x.sound(333333, 999999));
        Check.due("great numbers", false, () -> x.sound(333334, 1000000));
        Check.due("great numbers", true, () -> x.sound(333333, 1000000));
    }

    private static void greatestNumbers() {
        AmountPlanner x = new AmountPlanner();
        x.start(4);
        for (int j = 0; j < 4; j++) {
            x.amount(j, 12, 20, true);
            x.cost(j, 9);
        }
        for (int i = 0; i < 6; i++) {
            x.limit(9, 9, 9, 9, -99);
        }
        int y = 1000000;
        x.end(0, 0, y, y, y, y, y, y);
        Check.due("far above 0", true, () -> x.sound(1000000, 1000000));
        x.end(0, y, y, y, y, y, y, y);
        // s is 1000000 * (4 * 12 * 63 + 6 * 99), so the bound is 3618.
        Check.due("3618", true, () -> x.sound(3618, 1));
        Check.due("3618 in parts", true, () -> x.sound(999999, 277));
        Check.due("3619", false, () -> x.sound(3619, 1));
        Check.due("1000000 / 276", false, () -> x.sound(1000000, 276));
        for (int j = 0; j < 4; j++) {
            x.amount(j, 12, 20, true);
            x.cost(j, -9);
        }
        for (int i = 0; i < 6; i++) {
            x.drop(0);
        }
        for (int i = 0; i < 6; i++) {
            x.limit(-9, -9, -9, -9, 99);
        }
        // s is -1000000 * (4 * 20 * 63 + 6 * 99).
        Check.due("-5634", true, () -> x.sound(-5634, 1));
        Check.due("-5633", false, () -> x.sound(-5633, 1));
        Check.due("-5633 - 1 / 177", false, () -> x.sound(-997042, 177));
    }

    /** All forks that four whole amounts allow, with shared nodes: 6561 ends are looked at. */
    private static void fullTree() {
        AmountPlanner x = new AmountPlanner();
        x.start(4);
        int node = 0;
        for (int j = 0; j < 4; j++) {
            for (int v = 0; v < 8; v++) {
                int next = 8 * (j + 1);
                x.fork(node, j, v, next, node + 1 < next ? node + 1 : next);
                node++;
            }
        }
        x.end(32, 1, 0, 0, 0, 0, 0, 0);
        Check.due("the greatest tree", true, () -> x.sound(0, 1));
        x.cost(3, -1);
        Check.due("the greatest tree", true, () -> x.sound(-8, 1));
        Check.due("the greatest tree", false, () -> x.sound(-7, 1));
        x.amount(2, 0, 7, true);
        Check.due("one fork too many", false, () -> x.sound(-8, 1));
    }
}
