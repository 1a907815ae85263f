/** 'Terms': what amounts, limits, plans, the best plan and loosely are, and how fractions are told. */
public final class TermsPlanTest {
    public static void main(String[] args) {
        amounts();
        leastAndMost();
        sixLimits();
        sumsOfWeights();
        eachHasACost();
        fromLeastToMost();
        wholeForThoseThatAre();
        allLimitsAreKept();
        costOfAPlan();
        leastCost();
        leastAmountZero();
        leastAmountOneAndSoOn();
        loosely();
        fractions();
        Check.close();
    }

    private static AmountPlanner planner(int n) {
        AmountPlanner x = new AmountPlanner();
        x.start(n);
        return x;
    }

    private static void amounts() {
        Check.sentence(Check.TERMS, "AMOUNTS are 0 .. n - 1, n being 1 .. 4.");
        for (int n = 1; n <= 4; n++) {
            AmountPlanner x = planner(n);
            int last = n - 1;
            x.solve(false);
            for (int j = -1; j <= 4; j++) {
                int at = j;
                String due = j >= 0 && j <= last ? "0" : "throws.IndexOutOfBoundsException";
                Check.due("amount " + j + " of " + n, due, () -> x.plan(at, 0));
            }
        }
        AmountPlanner x = planner(4);
        Check.badArgument("no amounts", () -> x.start(0));
        Check.badArgument("five amounts", () -> x.start(5));
        Check.passes("there are four still", () -> x.cost(3, 0));
    }

    private static void leastAndMost() {
        Check.sentence(Check.TERMS, "Each has a LEAST and a MOST, and is WHOLE or may be any fraction.");
        AmountPlanner x = planner(4);
        for (int j = 0; j < 4; j++) {
            x.amount(j, j - 3, j + 4, j % 2 == 0);
        }
        Check.due("the leasts", true, () -> x.keeps(-3, -2, -1, 0, 1));
        Check.due("the mosts", true, () -> x.keeps(4, 5, 6, 7, 1));
        for (int j = 0; j < 4; j++) {
            int[] low = {-3000, -2000, -1000, 0};
            int[] high = {4000, 5000, 6000, 7000};
            low[j]--;
            high[j]++;
            Check.due("below the least of " + j, false, () -> x.keeps(low[0], low[1], low[2], low[3], 1000));
            Check.due("above the most of " + j, false, () -> x.keeps(high[0], high[1], high[2], high[3], 1000));
            low[j] += 2;
            Check.due("a fraction of " + j, j % 2 != 0, () -> x.keeps(low[0], low[1], low[2], low[3], 1000));
        }
    }

    private static void sixLimits() {
        Check.sentence(Check.TERMS, "LIMITS, 6 at most,");
        AmountPlanner x = planner(1);
        x.cost(0, -1);
        for (int i = 0; i < 6; i++) {
            int bound = 7 - i;
            Check.due("limit " + i, i, () -> x.limit(1, 0, 0, 0, bound));
            Check.due("it counts", bound, () -> x.solve(false) ? x.plan(0, 0) : -1);
        }
        Check.badState("a seventh", () -> x.limit(1, 0, 0, 0, 1));
        Check.due("it does not count", 2, () -> x.solve(false) ? x.plan(0, 0) : -1);
    }

    private static void sumsOfWeights() {
        Check.sentence(Check.TERMS, "have a weight for each amount and a bound: the sum of weights times amounts "
                + "is at most that.");
        AmountPlanner x = planner(4);
        for (int j = 0; j < 4; j++) {
            x.amount(j, -20, 20, false);
        }
        x.limit(1, -2, 3, -4, 5);
        Check.due("5", true, () -> x.keeps(5, 0, 0, 0, 1));
        Check.due("5.001", false, () -> x.keeps(5001, 0, 0, 0, 1000));
        Check.due("5 by the second", true, () -> x.keeps(0, -5, 0, 0, 2));
        Check.due("more by the second", false, () -> x.keeps(0, -2501, 0, 0, 1000));
        Check.due("5 by the third", true, () -> x.keeps(0, 0, 5, 0, 3));
        Check.due("more by the third", false, () -> x.keeps(0, 0, 1667, 0, 1000));
        Check.due("5 by the fourth", true, () -> x.keeps(0, 0, 0, -5, 4));
        Check.due("more by the fourth", false, () -> x.keeps(0, 0, 0, -1251, 1000));
        Check.due("5 by all", true, () -> x.keeps(20, 7, 9, 7, 1));
        Check.due("6 by all", false, () -> x.keeps(20, 8, 10, 7, 1));
        Check.due("200 by all", false, () -> x.keeps(20, -20, 20, -20, 1));
        Check.due("-200 by all", true, () -> x.keeps(-20, 20, -20, 20, 1));
    }

    private static void eachHasACost() {
        Check.sentence(Check.TERMS, "Each amount has a COST.");
        AmountPlanner x = planner(4);
        for (int j = 0; j < 4; j++) {
            x.amount(j, 1, 1, true);
        }
        int[] costs = {1, -2, 4, -8};
        int sum = 0;
        for (int j = 0; j < 4; j++) {
            x.cost(j, costs[j]);
            sum += costs[j];
            Check.due("with the cost of " + j, sum, () -> x.solve(false) ? x.total(0) : 99);
        }
    }

    private static void fromLeastToMost() {
        Check.sentence(Check.TERMS, "A PLAN is a number for each amount, from its LEAST to its MOST,");
        for (int n = 1; n <= 4; n++) {
            AmountPlanner x = planner(n);
            for (int j = 0; j < n; j++) {
                x.amount(j, -20 + j, 20 - j, false);
            }
            for (int j = 0; j < n; j++) {
                int[] a = new int[4];
                int[] numbers = {-20 + j, 20 - j};
                for (int number : numbers) {
                    a[j] = number;
                    Check.due("amount " + j + " is " + number, true, () -> x.keeps(a[0], a[1], a[2], a[3], 1));
                    a[j] = number < 0 ? number - 1 : number + 1;
                    Check.due("amount " + j + " is one farther", false,
                            () -> x.keeps(a[0], a[1], a[2], a[3], 1));
                }
                int at = j;
                x.cost(j, 1);
                Check.due("the least", -20 + j, () -> x.solve(false) ? x.plan(at, 0) : 99);
                x.cost(j, -1);
                Check.due("the most", 20 - j, () -> x.solve(false) ? x.plan(at, 0) : 99);
                x.cost(j, 0);
            }
        }
        AmountPlanner x = planner(2);
        x.amount(0, 3, 3, false);
        x.amount(1, -3, -3, true);
        x.cost(0, -9);
        x.cost(1, 9);
        Check.due("one value alone", "-54/1: 3/1 -3/1", () -> Check.solved(x, false, 2));
        Check.due("that value", true, () -> x.keeps(3, -3, 0, 0, 1));
        Check.due("another value", false, () -> x.keeps(3001, -3000, 0, 0, 1000));
        Check.due("another value", false, () -> x.keeps(3000, -2999, 0, 0, 1000));
    }

    /** 2 a is at most 7, and 2 b at least 7: as fractions 7 / 2 both, as whole ones 3 and 4. */
    private static void wholeForThoseThatAre() {
        Check.sentence(Check.TERMS, "whole for those that are,");
        for (int wholes = 0; wholes < 4; wholes++) {
            AmountPlanner x = planner(2);
            boolean first = (wholes & 1) != 0;
            boolean second = (wholes & 2) != 0;
            x.amount(0, 0, 8, first);
            x.amount(1, 0, 8, second);
            x.cost(0, -1);
            x.cost(1, 1);
            x.limit(2, 0, 0, 0, 7);
            x.limit(0, -2, 0, 0, -7);
            String plan = (first ? "3/1" : "7/2") + " " + (second ? "4/1" : "7/2");
            String total = first == second ? first ? "1/1" : "0/1" : "1/2";
            Check.due("the plan", total + ": " + plan, () -> Check.solved(x, false, 2));
            Check.due("halves of both", wholes == 0, () -> x.keeps(7, 7, 0, 0, 2));
            Check.due("a half of the first", !first, () -> x.keeps(7, 8, 0, 0, 2));
            Check.due("a half of the second", !second, () -> x.keeps(6, 7, 0, 0, 2));
            Check.due("no halves", true, () -> x.keeps(6, 8, 0, 0, 2));
        }
        AmountPlanner narrow = planner(1);
        narrow.cost(0, -1);
        narrow.limit(3, 0, 0, 0, 2);
        narrow.amount(0, 0, 1, true);
        Check.due("0 to 1, whole", "0/1: 0/1", () -> Check.solved(narrow, false, 1));
        narrow.amount(0, 0, 1, false);
        Check.due("0 to 1, any fraction", "-2/3: 2/3", () -> Check.solved(narrow, false, 1));
        AmountPlanner x = planner(1);
        x.amount(0, -8, 0, true);
        x.limit(-2, 0, 0, 0, 7);
        Check.due("the least whole one above -7 / 2", "0/1: -3/1", () -> Check.solved(x, false, 1));
        Check.due("-7 / 2", false, () -> x.keeps(-7, 0, 0, 0, 2));
        Check.due("-6 / 2", true, () -> x.keeps(-6, 0, 0, 0, 2));
    }

    private static void allLimitsAreKept() {
        Check.sentence(Check.TERMS, "so that all LIMITS are kept;");
        for (int i = 0; i < 6; i++) {
            AmountPlanner x = planner(1);
            x.cost(0, -1);
            for (int k = 0; k < 6; k++) {
                x.limit(1, 0, 0, 0, k == i ? 2 : 5);
            }
            Check.due("limit " + i + " at its bound", true, () -> x.keeps(2, 0, 0, 0, 1));
            Check.due("limit " + i + " above its bound", false, () -> x.keeps(3, 0, 0, 0, 1));
            Check.due("limit " + i + " tells the most", "-2/1: 2/1", () -> Check.solved(x, false, 1));
            Check.due("limit " + i + " tells the most, loosely", "-2/1: 2/1", () -> Check.solved(x, true, 1));
        }
        AmountPlanner x = planner(2);
        x.limit(1, 1, 0, 0, 3);
        x.limit(-1, -1, 0, 0, -3);
        x.limit(1, -1, 0, 0, 1);
        x.limit(-1, 1, 0, 0, -1);
        Check.due("one plan alone", "0/1: 2/1 1/1", () -> Check.solved(x, false, 2));
        x.limit(1, 0, 0, 0, 1);
        Check.due("none", "no plan", () -> Check.solved(x, false, 2));
        Check.due("none loosely", "no plan", () -> Check.solved(x, true, 2));
    }

    private static void costOfAPlan() {
        Check.sentence(Check.TERMS, "its COST is the sum of costs times amounts.");
        AmountPlanner x = planner(4);
        int[] values = {-20, 7, 0, 20};
        int[] costs = {9, -9, 5, -4};
        for (int j = 0; j < 4; j++) {
            x.amount(j, values[j], values[j], true);
            x.cost(j, costs[j]);
        }
        Check.due("-180 - 63 + 0 - 80", "-323/1: -20/1 7/1 0/1 20/1", () -> Check.solved(x, false, 4));
        AmountPlanner y = planner(2);
        y.amount(0, 0, 20, false);
        y.amount(1, -20, 0, false);
        y.cost(0, 3);
        y.cost(1, -2);
        y.limit(-7, 0, 0, 0, -1);
        y.limit(0, 5, 0, 0, -1);
        Check.due("3 / 7 + 2 / 5", "29/35: 1/7 -1/5", () -> Check.solved(y, false, 2));
    }

    private static void leastCost() {
        Check.sentence(Check.TERMS, "The BEST plan is one of the least COST;");
        AmountPlanner x = planner(2);
        x.cost(0, -2);
        x.cost(1, -3);
        x.limit(3, 4, 0, 0, 24);
        // 8 and 0 cost -16, 4 and 3 cost -17, 0 and 6 cost -18.
        Check.due("not the first that there is", "-18/1: 0/1 6/1", () -> Check.solved(x, false, 2));
        x.cost(0, -3);
        Check.due("-24 before -21 and -18", "-24/1: 8/1 0/1", () -> Check.solved(x, false, 2));
        x.cost(0, 0);
        x.cost(1, 0);
        Check.due("all cost the same", "0/1: 0/1 0/1", () -> Check.solved(x, false, 2));
        AmountPlanner y = planner(2);
        y.amount(0, 0, 20, false);
        y.cost(0, 9);
        y.cost(1, 8);
        // 9 a + 9 b is at least 10: 10 / 9 of a cost 10, b = 1 with 1 / 9 of a costs 9, b = 2 costs 16.
        y.limit(-9, -9, 0, 0, -10);
        Check.due("a little of the dear one", "9/1: 1/9 1/1", () -> Check.solved(y, false, 2));
        AmountPlanner z = planner(2);
        z.amount(0, 1, 8, true);
        z.amount(1, 1, 8, true);
        z.cost(0, 3);
        z.cost(1, 2);
        z.limit(-2, -1, 0, 0, -8);
        // 1 and 6 cost 15, 2 and 4 cost 14, 3 and 2 cost 13, 4 and 1 cost 14.
        Check.due("neither the first nor the last", "13/1: 3/1 2/1", () -> Check.solved(z, false, 2));
        costsThatWrapAround();
    }

    /** Costs with divisors so great that an int is too small to compare two of them. */
    private static void costsThatWrapAround() {
        int[][] first = {{0, 5, 7, -4, -59}, {-5, 9, -3, 4, -67}, {2, 6, 2, 5, -28}, {9, 1, -7, 1, -62}, {-8, 6, -6, -7, 45}};
        Check.due("great divisors", "-90213/440: -1223/88 -20/1 -5083/440 487/220",
                () -> Check.solved(fractional(first, -2, 6, 9, -4), false, 4));
        int[][] second = {{8, -2, -4, 0, 94}, {0, -7, -9, -7, -23}, {-5, -2, 4, 8, 94}, {-3, 3, -2, 6, 40}, {7, 9, -8, -3, 70}};
        Check.due("great divisors", "-624937/4385: 40521/4385 -1751/4385 -4226/877 43326/4385",
                () -> Check.solved(fractional(second, -8, 1, 8, -3), false, 4));
        int[][] third = {{-7, 8, -6, 8, -74}, {9, -4, 6, 3, 27}, {8, 9, 5, 2, -47}, {7, 4, -8, -5, -47}};
        Check.due("great divisors", "-42753/811: -11005/811 9739/1622 15415/1622 -20/1",
                () -> Check.solved(fractional(third, -4, -4, 6, 7), false, 4));
    }

    /** Four amounts from -20 to 20 that may be any fraction; a row has four weights and the bound. */
    private static AmountPlanner fractional(int[][] limits, int... costs) {
        AmountPlanner x = planner(4);
        for (int j = 0; j < 4; j++) {
            x.amount(j, -20, 20, false);
            x.cost(j, costs[j]);
        }
        for (int[] row : limits) {
            x.limit(row[0], row[1], row[2], row[3], row[4]);
        }
        return x;
    }

    private static void leastAmountZero() {
        Check.sentence(Check.TERMS, "of these one with the least amount 0,");
        AmountPlanner x = planner(2);
        x.cost(0, -1);
        x.cost(1, -1);
        x.limit(1, 1, 0, 0, 10);
        Check.due("2 and 8, not 8 and 2", "-10/1: 2/1 8/1", () -> Check.solved(x, false, 2));
        Check.due("the same loosely", "-10/1: 2/1 8/1", () -> Check.solved(x, true, 2));
        x.limit(0, 2, 0, 0, 15);
        Check.due("7 at most of the other", "-10/1: 3/1 7/1", () -> Check.solved(x, false, 2));
        Check.due("15 / 2 loosely", "-10/1: 5/2 15/2", () -> Check.solved(x, true, 2));
        AmountPlanner y = planner(1);
        y.amount(0, -20, 20, false);
        Check.due("the least is below 0", "0/1: -20/1", () -> Check.solved(y, false, 1));
        y.limit(-3, 0, 0, 0, 40);
        Check.due("the least is a fraction", "0/1: -40/3", () -> Check.solved(y, false, 1));
        AmountPlanner z = planner(2);
        z.amount(0, -4, 4, true);
        z.cost(0, 1);
        z.cost(1, 1);
        z.limit(-1, -1, 0, 0, 0);
        Check.due("-4 and 4, not 0 and 0", "0/1: -4/1 4/1", () -> Check.solved(z, false, 2));
        // As for costs: an int is too small to compare these amounts of plans that cost the same.
        int[][] limits = {{9, -5, -9, 9, -93}, {9, 6, -7, -5, 13}, {9, 1, 8, 7, -33}, {-9, -1, -4, 9, 14}, {1, -8, -5, -9, 41}};
        Check.due("great divisors", "93/1: -80267/12838 17805/6419 -21358/6419 -575/98",
                () -> Check.solved(fractional(limits, -9, 5, 9, -9), false, 4));
    }

    private static void leastAmountOneAndSoOn() {
        Check.sentence(Check.TERMS, "of these one with the least amount 1, and so on.");
        AmountPlanner x = planner(4);
        for (int j = 0; j < 4; j++) {
            x.cost(j, -1);
        }
        x.limit(1, 1, 1, 1, 20);
        Check.due("four", "-20/1: 0/1 4/1 8/1 8/1", () -> Check.solved(x, false, 4));
        Check.due("four, loosely", "-20/1: 0/1 4/1 8/1 8/1", () -> Check.solved(x, true, 4));
        x.limit(0, 2, 0, 0, 7);
        Check.due("amount 1 has an end", "-20/1: 1/1 3/1 8/1 8/1", () -> Check.solved(x, false, 4));
        Check.due("at a half", "-20/1: 1/2 7/2 8/1 8/1", () -> Check.solved(x, true, 4));
        x.amount(1, 0, 8, false);
        Check.due("one may be a fraction", "-20/1: 1/1 3/1 8/1 8/1", () -> Check.solved(x, false, 4));
        x.amount(0, -20, 20, false);
        Check.due("two may", "-20/1: 1/2 7/2 8/1 8/1", () -> Check.solved(x, false, 4));
        for (int last = 1; last < 4; last++) {
            lastTwoOfSome(last);
        }
    }

    /** Amounts last - 1 and last share 10, those before are 1, and those behind are free. */
    private static void lastTwoOfSome(int last) {
        AmountPlanner x = planner(4);
        int[] w = new int[4];
        for (int j = 0; j < 4; j++) {
            if (j < last - 1) {
                x.amount(j, 1, 1, true);
            } else if (j <= last) {
                x.cost(j, -1);
                w[j] = 1;
            } else {
                x.amount(j, -5, 3, true);
            }
        }
        x.limit(w[0], w[1], w[2], w[3], 10);
        StringBuilder due = new StringBuilder("-10/1:");
        for (int j = 0; j < 4; j++) {
            due.append(j < last - 1 ? " 1/1" : j == last - 1 ? " 2/1" : j == last ? " 8/1" : " -5/1");
        }
        Check.due("amounts " + (last - 1) + " and " + last, due, () -> Check.solved(x, false, 4));
        Check.due("loosely", due, () -> Check.solved(x, true, 4));
    }

    private static void loosely() {
        Check.sentence(Check.TERMS, "LOOSELY, all is the same, but no amount is WHOLE.");
        AmountPlanner x = planner(3);
        for (int j = 0; j < 3; j++) {
            x.cost(j, -1);
        }
        x.limit(2, 0, 0, 0, 3);
        x.limit(0, 3, 0, 0, 4);
        x.limit(0, 0, 4, 0, 5);
        Check.due("whole", "-3/1: 1/1 1/1 1/1", () -> Check.solved(x, false, 3));
        Check.due("loosely", "-49/12: 3/2 4/3 5/4", () -> Check.solved(x, true, 3));
        Check.due("the amounts stay whole", "-3/1: 1/1 1/1 1/1", () -> Check.solved(x, false, 3));
        x.solve(true);
        Check.due("the amounts stay whole", false, () -> x.keeps(3, 2, 2, 0, 2));
        x.end(1, 1, 0, 0, 0, 0, 0, 0);
        x.fork(0, 0, 3, 1, 1);
        Check.due("and may be forked", true, () -> x.sound(-24, 1));
        x.drop(0);
        x.drop(0);
        x.drop(0);
        Check.due("the mosts are the same loosely", "-24/1: 8/1 8/1 8/1", () -> Check.solved(x, true, 3));
        for (int j = 0; j < 3; j++) {
            x.cost(j, 1);
        }
        Check.due("the leasts are the same loosely", "0/1: 0/1 0/1 0/1", () -> Check.solved(x, true, 3));
        x.limit(0, 0, 0, 0, -1);
        Check.due("the limits are the same loosely", "no plan", () -> Check.solved(x, true, 3));
    }

    private static void fractions() {
        Check.sentence(Check.TERMS, "Fractions are told as p / q, q 1 or more, without a common divisor.");
        AmountPlanner x = planner(1);
        x.amount(0, -20, 20, false);
        x.cost(0, 6);
        // w a is at least -bound, so a is -bound / w, and its cost six times that.
        int[][] cases = {{9, 0}, {9, 9}, {9, -9}, {8, 6}, {8, -6}, {6, 9}, {6, -9}, {9, 99}, {9, -99}, {7, 3}, {1, 5}};
        String[] due = {"0/1: 0/1", "-6/1: -1/1", "6/1: 1/1", "-9/2: -3/4", "9/2: 3/4", "-9/1: -3/2", "9/1: 3/2",
            "-66/1: -11/1", "66/1: 11/1", "-18/7: -3/7", "-30/1: -5/1"};
        for (int k = 0; k < cases.length; k++) {
            x.limit(-cases[k][0], 0, 0, 0, cases[k][1]);
            Check.due("at least " + -cases[k][1] + " / " + cases[k][0], due[k], () -> Check.solved(x, false, 1));
            Check.due("loosely", due[k], () -> Check.solved(x, true, 1));
            x.drop(0);
        }
        // From above the weight is not below 0, and neither must q be.
        x.cost(0, -6);
        String[] above = {"0/1: 0/1", "-6/1: 1/1", "6/1: -1/1", "-9/2: 3/4", "9/2: -3/4", "-9/1: 3/2", "9/1: -3/2",
            "-66/1: 11/1", "66/1: -11/1", "-18/7: 3/7", "-30/1: 5/1"};
        for (int k = 0; k < cases.length; k++) {
            x.limit(cases[k][0], 0, 0, 0, cases[k][1]);
            Check.due("at most " + cases[k][1] + " / " + cases[k][0], above[k], () -> Check.solved(x, false, 1));
            x.drop(0);
        }
        AmountPlanner y = planner(2);
        y.cost(0, 1);
        y.cost(1, 1);
        y.limit(-2, 0, 0, 0, -1);
        y.limit(0, -2, 0, 0, -1);
        Check.due("two halves are 1 / 1", "1/1: 1/2 1/2", () -> Check.solved(y, true, 2));
        y.cost(1, -1);
        y.limit(0, 2, 0, 0, 1);
        Check.due("a half less a half is 0 / 1", "0/1: 1/2 1/2", () -> Check.solved(y, true, 2));
    }
}
