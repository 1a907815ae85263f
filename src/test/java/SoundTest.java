/** Promise 14: sound. What sound means, stands in TermsTreeTest. */
public final class SoundTest {
    public static void main(String[] args) {
        isTheTreeSound();
        boundsAbove();
        boundsBelow();
        greatestNumbers();
        fullTree();
        Check.close();
    }

    private static void isTheTreeSound() {
        Check.sentence(14, "Whether the TREE is SOUND for p / q.");
        AmountPlanner x = new AmountPlanner();
        x.start(1);
        x.cost(0, 1);
        x.limit(-3, 0, 0, 0, -1);
        Check.due("NOTHING", false, () -> x.sound(-1000000, 1));
        x.end(0, 3, 1, 0, 0, 0, 0, 0);
        Check.due("1 / 3", true, () -> x.sound(1, 3));
        Check.due("2 / 6", true, () -> x.sound(2, 6));
        Check.due("333333 / 1000000", true, () -> x.sound(333333, 1000000));
        Check.due("333334 / 1000000", false, () -> x.sound(333334, 1000000));
        Check.due("-1 / 3", true, () -> x.sound(-1, 3));
        Check.due("333333 / 999998", false, () -> x.sound(333333, 999998));
        x.fork(0, 0, 0, 1, 2);
        x.end(1, 0, 1, 0, 0, 0, 0, 0);
        x.end(2, 1, 0, 0, 0, 0, 0, 0);
        Check.due("a FORK proves 1", true, () -> x.sound(1, 1));
        Check.due("and no more", false, () -> x.sound(1000000, 999999));
        x.solve(false);
        Check.due("what was solved stays", "1/1: 1/1", () -> Check.told(x, 1));
        Check.due("solving changes no tree", true, () -> x.sound(1, 1));
        x.solve(true);
        Check.due("nor does solving loosely", true, () -> x.sound(1, 1));
        Check.due("nor does sound change what was solved", "1/3: 1/3", () -> Check.told(x, 1));
    }

    private static void boundsAbove() {
        Check.sentence(14, "IllegalArgumentException: p is not -1000000 .. 1000000,");
        AmountPlanner x = new AmountPlanner();
        for (int p : Check.outside(-1000000, 1000000)) {
            Check.badArgument("p " + p + ", of NOTHING", () -> x.sound(p, 1));
        }
        x.end(0, 1, 0, 0, 0, 0, 0, 0);
        for (int p : Check.outside(-1000000, 1000000)) {
            Check.badArgument("p " + p, () -> x.sound(p, 1));
            Check.badArgument("p " + p, () -> x.sound(p, 1000000));
        }
        Check.due("p -1000000", true, () -> x.sound(-1000000, 1));
        Check.due("p 1000000", false, () -> x.sound(1000000, 1));
        x.limit(0, 0, 0, 0, -1);
        x.end(0, 1, 999999, 0, 0, 0, 0, 0);
        Check.due("p 999999", true, () -> x.sound(999999, 1));
        Check.due("p 1000000", false, () -> x.sound(1000000, 1));
        x.end(0, 1, 1000000, 0, 0, 0, 0, 0);
        Check.due("p 1000000", true, () -> x.sound(1000000, 1));
        x.drop(0);
        x.limit(0, 0, 0, 0, 1);
        Check.due("p -1000000", true, () -> x.sound(-1000000, 1));
        Check.due("p -999999", false, () -> x.sound(-999999, 1));
    }

    private static void boundsBelow() {
        Check.sentence(14, "or q not 1 .. 1000000.");
        AmountPlanner x = new AmountPlanner();
        for (int q : Check.outside(1, 1000000)) {
            Check.badArgument("q " + q + ", of NOTHING", () -> x.sound(0, q));
        }
        x.limit(0, 0, 0, 0, -1);
        x.end(0, 1, 1, 0, 0, 0, 0, 0);
        for (int q : Check.outside(1, 1000000)) {
            Check.badArgument("q " + q, () -> x.sound(0, q));
            Check.badArgument("q " + q, () -> x.sound(1000000, q));
        }
        Check.due("q 1", true, () -> x.sound(1, 1));
        Check.due("q 1", false, () -> x.sound(2, 1));
        Check.due("q 1000000", true, () -> x.sound(1000000, 1000000));
        Check.due("q 999999", false, () -> x.sound(1000000, 999999));
        Check.badArgument("p and q", () -> x.sound(1000001, 0));
    }

    /** Not a sentence of its own: numbers that would wrap around in an int. */
    private static void greatestNumbers() {
        AmountPlanner x = new AmountPlanner();
        x.start(4);
        for (int j = 0; j < 4; j++) {
            x.amount(j, 12, 20, true);
            x.cost(j, 9);
        }
        for (int i = 0; i < 6; i++) {
            x.limit(9, 9, 9, 9, -99);
        }
        int y = 1000000;
        // s is 1000000 * (4 * 12 * 54 + 6 * 99), 3186000000, which is below 0 as an int.
        x.end(0, 0, y, y, y, y, y, y);
        Check.due("far above 0", true, () -> x.sound(1000000, 1));
        x.end(0, y, y, y, y, y, y, y);
        // s is 1000000 * (4 * 12 * 63 + 6 * 99), so the bound is 3618.
        Check.due("3618", true, () -> x.sound(3618, 1));
        Check.due("3618 in parts", true, () -> x.sound(999999, 277));
        Check.due("3619", false, () -> x.sound(3619, 1));
        Check.due("1000000 / 276", false, () -> x.sound(1000000, 276));
        Check.due("1000000 / 277", true, () -> x.sound(1000000, 277));
        Check.due("1000000 / 1", false, () -> x.sound(1000000, 1));
        Check.due("-1000000 / 1", true, () -> x.sound(-1000000, 1));
        Check.due("1000000 / 1000000", true, () -> x.sound(1000000, 1000000));
        x.start(4);
        for (int j = 0; j < 4; j++) {
            x.amount(j, 12, 20, true);
            x.cost(j, -9);
        }
        for (int i = 0; i < 6; i++) {
            x.limit(-9, -9, -9, -9, 99);
        }
        // s is -1000000 * (4 * 20 * 54 + 6 * 99), -4914000000, which is far from 0 as an int, too.
        x.end(0, 0, y, y, y, y, y, y);
        Check.due("far below 0", false, () -> x.sound(-1000000, 1));
        x.end(0, y, y, y, y, y, y, y);
        // s is -1000000 * (4 * 20 * 63 + 6 * 99).
        Check.due("-5634", true, () -> x.sound(-5634, 1));
        Check.due("-5633", false, () -> x.sound(-5633, 1));
        Check.due("-997042 / 177", false, () -> x.sound(-997042, 177));
        Check.due("-1000000 / 177", true, () -> x.sound(-1000000, 177));
        Check.due("-1000000 / 178", false, () -> x.sound(-1000000, 178));
        wrapsToTheOtherSide();
    }

    /** s is just above 2^31 or just below -2^31, so an int has the wrong sign. */
    private static void wrapsToTheOtherSide() {
        AmountPlanner x = new AmountPlanner();
        x.start(4);
        int y = 1000000;
        for (int j = 0; j < 4; j++) {
            x.amount(j, 20, 20, true);
        }
        x.limit(9, 9, 9, 0, 0);
        x.limit(9, 9, 9, 0, 0);
        x.limit(9, 9, 9, 0, 0);
        x.limit(9, 9, 9, 0, 0);
        x.end(0, 0, y, y, y, y, y, y);
        // 4 * 27 * 20 is 2160, and 2^31 is some 2147.5 million.
        Check.due("2160000000", true, () -> x.sound(0, 1));
        x.start(4);
        for (int j = 0; j < 4; j++) {
            x.amount(j, 20, 20, true);
        }
        for (int i = 0; i < 4; i++) {
            x.limit(-9, -9, -9, 0, 0);
        }
        Check.due("-2160000000", false, () -> x.sound(0, 1));
    }

    /** All forks that four whole amounts allow, with shared nodes: 6561 ends are looked at. */
    private static void fullTree() {
        AmountPlanner x = new AmountPlanner();
        x.start(4);
        int node = 0;
        for (int j = 0; j < 4; j++) {
            for (int v = 0; v < 8; v++) {
                int next = 8 * (j + 1);
                x.fork(node, j, v, next, node + 1 < next ? node + 1 : next);
                node++;
            }
        }
        x.end(32, 1, 0, 0, 0, 0, 0, 0);
        Check.due("the greatest tree", true, () -> x.sound(0, 1));
        x.cost(3, -1);
        Check.due("the greatest tree", true, () -> x.sound(-8, 1));
        Check.due("the greatest tree", false, () -> x.sound(-7, 1));
        x.amount(2, 0, 7, true);
        Check.due("one fork too many", false, () -> x.sound(-8, 1));
    }
}
