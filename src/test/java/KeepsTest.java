/** Promise 10: keeps. */
public final class KeepsTest {
    public static void main(String[] args) {
        eachByTheDivisor();
        thoseThatThereAre();
        aPlanNeverLoosely();
        divisors();
        numbers();
        Check.close();
    }

    /** A whole amount from -3 to 5 and one from -20 to 20; 2 a + 3 b is at most 4. */
    private static AmountPlanner planner() {
        AmountPlanner x = new AmountPlanner();
        x.start(2);
        x.amount(0, -3, 5, true);
        x.amount(1, -20, 20, false);
        x.limit(2, 3, 0, 0, 4);
        return x;
    }

    private static void eachByTheDivisor() {
        Check.sentence(10, "Whether a / q, b / q, c / q, d / q");
        for (int j = 0; j < 4; j++) {
            AmountPlanner x = new AmountPlanner();
            x.start(4);
            for (int k = 0; k < 4; k++) {
                x.amount(k, -1, 3, false);
            }
            x.amount(j, 1, 2, false);
            for (int q : new int[] {1, 2, 3, 7, 999, 1000}) {
                int[] a = new int[4];
                for (int p : new int[] {q - 1, q, 2 * q, 2 * q + 1}) {
                    a[j] = p;
                    Check.due("number " + j + " is " + p + " / " + q, p >= q && p <= 2 * q,
                            () -> x.keeps(a[0], a[1], a[2], a[3], q));
                }
            }
        }
    }

    private static void thoseThatThereAre() {
        Check.sentence(10, "(those of amounts that there are)");
        for (int n = 1; n <= 4; n++) {
            AmountPlanner x = new AmountPlanner();
            x.start(4);
            x.limit(1, 1, 1, 1, 0);
            x.start(n);
            x.limit(1, 0, 0, 0, 8);
            for (int j = 0; j < 4; j++) {
                for (int p : new int[] {-20000, -1, 9, 20000}) {
                    int[] a = new int[4];
                    a[j] = p;
                    Check.due("number " + j + " is " + p + ", of " + n, j >= n,
                            () -> x.keeps(a[0], a[1], a[2], a[3], 1));
                }
                int[] a = new int[4];
                a[j] = 1;
                Check.due("number " + j + " is 1 / 2, of " + n, j >= n,
                        () -> x.keeps(a[0], a[1], a[2], a[3], 2));
            }
        }
    }

    private static void aPlanNeverLoosely() {
        Check.sentence(10, "are a PLAN, never LOOSELY.");
        AmountPlanner x = planner();
        for (int round = 0; round < 3; round++) {
            Check.due("inside", true, () -> x.keeps(1, 0, 0, 0, 1));
            Check.due("on the limit", true, () -> x.keeps(3, 2, 0, 0, 3));
            Check.due("above the limit", false, () -> x.keeps(3, 3, 0, 0, 3));
            Check.due("a half of the whole one", false, () -> x.keeps(1, 0, 0, 0, 2));
            Check.due("a half below 0", false, () -> x.keeps(-1, 0, 0, 0, 2));
            Check.due("a whole one told in halves", true, () -> x.keeps(-4, 0, 0, 0, 2));
            Check.due("a half of the other", true, () -> x.keeps(2, 1, 0, 0, 2));
            Check.due("the leasts", true, () -> x.keeps(-3, -20, 0, 0, 1));
            Check.due("below the least", false, () -> x.keeps(-4, 0, 0, 0, 1));
            Check.due("the most", true, () -> x.keeps(5, -2, 0, 0, 1));
            Check.due("above the most", false, () -> x.keeps(6, -20, 0, 0, 1));
            // Not solved at first, then solved loosely, then solved.
            x.solve(round == 0);
        }
        x.limit(0, 0, 0, 0, -1);
        Check.due("there is no plan", false, () -> x.keeps(1, 0, 0, 0, 1));
        Check.badState("keeps solves nothing", () -> x.total(0));
    }

    private static void divisors() {
        Check.sentence(10, "IllegalArgumentException: q is not 1 .. 1000,");
        AmountPlanner x = planner();
        for (int q : Check.outside(1, 1000)) {
            Check.badArgument("divisor " + q, () -> x.keeps(0, 0, 0, 0, q));
            Check.badArgument("divisor " + q, () -> x.keeps(20000, 1, 1, 1, q));
        }
        Check.due("divisor 1", true, () -> x.keeps(0, 1, 0, 0, 1));
        Check.due("divisor 1, too much", false, () -> x.keeps(0, 2, 0, 0, 1));
        Check.due("divisor 1000", true, () -> x.keeps(0, 1333, 0, 0, 1000));
        Check.due("divisor 1000, too much", false, () -> x.keeps(0, 1334, 0, 0, 1000));
        Check.due("divisor 999", true, () -> x.keeps(0, 1332, 0, 0, 999));
        Check.due("divisor 999, too much", false, () -> x.keeps(0, 1333, 0, 0, 999));
    }

    private static void numbers() {
        Check.sentence(10, "or another number (also of an amount that there is not) not -20000 .. 20000.");
        for (int n = 1; n <= 4; n++) {
            AmountPlanner x = new AmountPlanner();
            x.start(n);
            x.amount(0, -20, 20, false);
            for (int j = 0; j < 4; j++) {
                int[] a = new int[4];
                for (int p : Check.outside(-20000, 20000)) {
                    a[j] = p;
                    Check.badArgument("number " + j + " is " + p + ", of " + n,
                            () -> x.keeps(a[0], a[1], a[2], a[3], 1000));
                    Check.badArgument("number " + j + " is " + p + ", of " + n,
                            () -> x.keeps(a[0], a[1], a[2], a[3], 1));
                }
                for (int p : new int[] {-20000, 20000}) {
                    a[j] = p;
                    Check.due("number " + j + " is " + p + ", of " + n, j == 0 || j >= n,
                            () -> x.keeps(a[0], a[1], a[2], a[3], 1000));
                }
            }
        }
        AmountPlanner x = planner();
        Check.due("all at the end", false, () -> x.keeps(20000, 20000, 20000, 20000, 1));
        Check.due("all at the other end", false, () -> x.keeps(-20000, -20000, -20000, -20000, 1));
        Check.due("all at the end, by 1000", false, () -> x.keeps(20000, 20000, 20000, 20000, 1000));
    }
}
