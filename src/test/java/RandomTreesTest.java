import java.util.Random;

/** Terms and promise 14: trees with many FORKS that are as they should be, compared with the Reference. */
public final class RandomTreesTest {
    private static final int TREES = 400;
    private static final int BOUNDS = 60;

    private final Random random;
    private final AmountPlanner x = new AmountPlanner();
    private final Reference y = new Reference();
    private final int[] least = new int[4];
    private final int[] most = new int[4];
    private final boolean[] whole = new boolean[4];
    private int amounts = 0;
    private int nodes = 0;

    private RandomTreesTest(int seed) {
        random = new Random(seed);
    }

    public static void main(String[] args) {
        int sound = 0;
        for (int seed = 0; seed < TREES; seed++) {
            RandomTreesTest test = new RandomTreesTest(seed);
            test.tellProblem();
            test.tellNode();
            sound += test.compareBounds("tree " + seed + ", ");
        }
        int count = sound;
        Check.due("trees that are sound for some bounds and not for others", true, () -> count > TREES / 2);
        Check.close();
    }

    private void tellProblem() {
        amounts = 1 + random.nextInt(4);
        x.start(amounts);
        y.start(amounts);
        for (int j = 0; j < amounts; j++) {
            tellAmount(j, random.nextInt(5) > 0);
            int cost = random.nextInt(19) - 9;
            x.cost(j, cost);
            y.cost(j, cost);
        }
        int limits = random.nextInt(7);
        for (int i = 0; i < limits; i++) {
            int[] w = new int[4];
            for (int j = 0; j < amounts; j++) {
                w[j] = random.nextInt(19) - 9;
            }
            int bound = random.nextInt(60) - 20;
            x.limit(w[0], w[1], w[2], w[3], bound);
            y.limit(w[0], w[1], w[2], w[3], bound);
        }
    }

    private void tellAmount(int j, boolean isWhole) {
        whole[j] = isWhole;
        least[j] = random.nextInt(33) - 20;
        most[j] = least[j] + random.nextInt(9);
        x.amount(j, least[j], most[j], isWhole);
        y.amount(j, least[j], most[j], isWhole);
    }

    /** Tells a node and all behind it: its number. Seldom a FORK is one step beyond what is allowed. */
    private int tellNode() {
        int node = nodes++;
        int j = random.nextInt(amounts);
        int width = most[j] - least[j];
        // No FORK behind 18: each of those that are open still needs a number for its second node.
        if (nodes > 18 || !whole[j] || width == 0 || random.nextInt(6) == 0) {
            tellEnd(node);
            return node;
        }
        int v = least[j] + random.nextInt(width) + (random.nextInt(80) == 0 ? 1 : 0);
        int oldMost = most[j];
        int oldLeast = least[j];
        most[j] = v;
        int first = tellNode();
        most[j] = oldMost;
        least[j] = Math.min(v + 1, oldMost);
        int second = random.nextInt(12) == 0 ? first : tellNode();
        least[j] = oldLeast;
        x.fork(node, j, v, first, second);
        y.fork(node, j, v, first, second);
        return node;
    }

    private void tellEnd(int node) {
        int w = random.nextInt(12) == 0 ? 0 : 1 + random.nextInt(3);
        int[] m = new int[6];
        for (int i = 0; i < 6; i++) {
            m[i] = random.nextInt(3) == 0 ? random.nextInt(3) : 0;
        }
        x.end(node, w, m[0], m[1], m[2], m[3], m[4], m[5]);
        y.end(node, w, m);
    }

    /** Looks at bounds that come nearer and nearer to where the tree is sound no more: 1 if there is such. */
    private int compareBounds(String tree) {
        long low = -1_000_000;
        long high = 1_000_000;
        int q = 1 + random.nextInt(100);
        for (int k = 0; k < BOUNDS && high - low > 1; k++) {
            int p = (int) ((low + high) / 2);
            boolean due = y.sound(p, q);
            Check.due(tree + "bound " + p + " / " + q, due, () -> x.sound(p, q));
            if (due) {
                low = p;
            } else {
                high = p;
            }
        }
        return low > -1_000_000 && high < 1_000_000 ? 1 : 0;
    }
}
