import java.util.Random;

/** All promises: runs of 512 calls at most, right and wrong ones, each compared with the Reference. */
public final class RandomRunsTest {
    private static final int RUNS = 80;
    private static final int CALLS = 512;
    private static final int MOST_CALLS_OF_A_STEP = 18;

    private final Random random;
    private final AmountPlanner x = new AmountPlanner();
    private final Reference y = new Reference();
    private int solves = 0;
    private int calls = 0;

    private RandomRunsTest(int seed) {
        random = new Random(seed);
    }

    public static void main(String[] args) {
        for (int run = 0; run < RUNS; run++) {
            RandomRunsTest test = new RandomRunsTest(run);
            while (test.calls + MOST_CALLS_OF_A_STEP <= CALLS) {
                test.step("run " + run + ", call " + test.calls + ": ");
            }
        }
        Check.close();
    }

    /** A number within the bounds, seldom just outside, and very seldom far outside. */
    private int number(int low, int high) {
        int kind = random.nextInt(60);
        if (kind == 0) {
            return low - 1;
        }
        if (kind == 1) {
            return high + 1;
        }
        if (kind == 2 && random.nextInt(4) == 0) {
            return random.nextInt();
        }
        return low + random.nextInt(high - low + 1);
    }

    private void compare(String what, Check.Action first, Check.Action second) {
        compareAnswers(what, () -> Check.done(first), () -> Check.done(second));
    }

    private void compareAnswers(String what, java.util.concurrent.Callable<?> first, java.util.concurrent.Callable<?> second) {
        calls++;
        Check.due(what, Check.answer(second), first);
    }

    private void step(String at) {
        int kind = random.nextInt(100);
        if (kind < 2) {
            int n = number(1, 4);
            compare(at + "start " + n, () -> x.start(n), () -> y.start(n));
        } else if (kind < 12) {
            changeAmount(at);
        } else if (kind < 20) {
            int j = number(0, 3);
            int c = number(-9, 9);
            compare(at + "cost " + j + " " + c, () -> x.cost(j, c), () -> y.cost(j, c));
        } else if (kind < 30) {
            addLimit(at);
        } else if (kind < 35) {
            int i = number(0, 5);
            compareAnswers(at + "drop " + i, () -> x.drop(i), () -> y.drop(i));
        } else if (kind < 42) {
            solve(at);
        } else if (kind < 46) {
            int which = number(0, 1);
            compareAnswers(at + "total " + which, () -> x.total(which), () -> y.total(which));
        } else if (kind < 50) {
            int j = number(0, 3);
            int which = number(0, 1);
            compareAnswers(at + "plan " + j + " " + which, () -> x.plan(j, which), () -> y.plan(j, which));
        } else if (kind < 55) {
            compareAnswers(at + "prove", x::prove, y::prove);
        } else if (kind < 65) {
            keeps(at);
        } else {
            treeStep(at, kind);
        }
    }

    private void changeAmount(String at) {
        int j = number(0, 3);
        boolean whole = random.nextInt(3) > 0;
        int least = number(-20, whole ? 12 : 20);
        int most = whole ? least + number(0, 8) : number(Math.max(-20, Math.min(20, least)), 20);
        compare(at + "amount " + j + " " + least + " " + most + " " + whole,
                () -> x.amount(j, least, most, whole), () -> y.amount(j, least, most, whole));
    }

    private void addLimit(String at) {
        int[] w = new int[4];
        int n = random.nextInt(5);
        for (int j = 0; j < n; j++) {
            w[j] = number(-9, 9);
        }
        int bound = random.nextBoolean() ? number(0, 99) : number(-99, 99);
        compareAnswers(at + "limit " + w[0] + " " + w[1] + " " + w[2] + " " + w[3] + " " + bound,
                () -> x.limit(w[0], w[1], w[2], w[3], bound), () -> y.limit(w[0], w[1], w[2], w[3], bound));
    }

    /** The Reference is slow, so only some solves of a run are made. */
    private void solve(String at) {
        if (solves >= 12) {
            return;
        }
        solves++;
        boolean loosely = random.nextInt(3) == 0;
        compareAnswers(at + "solve " + loosely, () -> x.solve(loosely), () -> y.solve(loosely));
        compareAnswers(at + "prove", x::prove, y::prove);
        for (int j = 0; j < 4; j++) {
            for (int which = 0; which < 2; which++) {
                int a = j;
                int b = which;
                compareAnswers(at + "total " + b, () -> x.total(b), () -> y.total(b));
                compareAnswers(at + "plan " + a + " " + b, () -> x.plan(a, b), () -> y.plan(a, b));
            }
        }
    }

    private void keeps(String at) {
        int q = random.nextBoolean() ? number(1, 3) : number(1, 1000);
        int[] p = new int[4];
        for (int j = 0; j < 4; j++) {
            p[j] = random.nextInt(10) == 0 ? number(-20000, 20000) : number(-20, 20) * (random.nextInt(3) > 0 ? q : 1);
        }
        compareAnswers(at + "keeps " + p[0] + " " + p[1] + " " + p[2] + " " + p[3] + " " + q,
                () -> x.keeps(p[0], p[1], p[2], p[3], q), () -> y.keeps(p[0], p[1], p[2], p[3], q));
    }

    private void treeStep(String at, int kind) {
        int node = random.nextInt(3) == 0 ? number(0, 39) : random.nextInt(4);
        if (kind < 72) {
            int j = number(0, 3);
            int v = random.nextBoolean() ? number(0, 8) : number(-20, 20);
            int first = node + 1 + random.nextInt(3);
            int second = random.nextInt(9) == 0 ? number(0, 39) : node + 1 + random.nextInt(3);
            compare(at + "fork " + node + " " + j + " " + v + " " + first + " " + second,
                    () -> x.fork(node, j, v, first, second), () -> y.fork(node, j, v, first, second));
        } else if (kind < 85) {
            int most = random.nextInt(4) == 0 ? 1000000 : 3;
            int w = number(0, most);
            int[] m = new int[6];
            for (int i = 0; i < 6; i++) {
                m[i] = number(0, most);
            }
            compare(at + "end " + node + " " + w, () -> x.end(node, w, m[0], m[1], m[2], m[3], m[4], m[5]),
                    () -> y.end(node, w, m));
        } else if (kind < 87) {
            compare(at + "clear " + node, () -> x.clear(node), () -> y.clear(node));
        } else {
            int q = random.nextBoolean() ? number(1, 3) : number(1, 1000000);
            int p = random.nextBoolean() ? number(-1000, 1000) : number(-1000000, 1000000);
            compareAnswers(at + "sound " + p + " " + q, () -> x.sound(p, q), () -> y.sound(p, q));
        }
    }
}
