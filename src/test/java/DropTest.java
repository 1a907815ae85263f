/** Promise 6: drop. */
public final class DropTest {
    public static void main(String[] args) {
        oneGoes();
        thoseBehindMoveUp();
        treeStays();
        howManyAreLeft();
        noSuchLimit();
        Check.close();
    }

    /** One amount that is as much as the limits allow; limit i allows i + 1. */
    private static AmountPlanner planner(int limits) {
        AmountPlanner x = new AmountPlanner();
        x.start(1);
        x.cost(0, -1);
        for (int i = 0; i < limits; i++) {
            x.limit(1, 0, 0, 0, i + 1);
        }
        return x;
    }

    private static int most(AmountPlanner x) {
        return x.solve(false) ? x.plan(0, 0) : -1;
    }

    private static void oneGoes() {
        Check.sentence(6, "A limit goes;");
        for (int i = 0; i < 6; i++) {
            AmountPlanner x = planner(6);
            int at = i;
            Check.due("drop " + i, 5, () -> x.drop(at));
            Check.due("the rest is kept", i == 0 ? 2 : 1, () -> most(x));
        }
        AmountPlanner x = planner(1);
        Check.due("the only one", 1, () -> most(x));
        x.drop(0);
        Check.due("goes", 8, () -> most(x));
    }

    private static void thoseBehindMoveUp() {
        Check.sentence(6, "those behind it have a number less");
        for (int i = 0; i < 6; i++) {
            AmountPlanner x = planner(6);
            x.drop(i);
            StringBuilder left = new StringBuilder();
            for (int limit = 0; limit < 6; limit++) {
                left.append(limit == i ? "" : " " + (limit + 1));
            }
            Check.due("without " + i, left.toString(), () -> boundsByY(x, 5));
            x.drop(0);
            left.delete(0, 2);
            Check.due("without " + i + " and the first", left.toString(), () -> boundsByY(x, 4));
        }
        AmountPlanner x = planner(6);
        x.drop(5);
        x.drop(0);
        Check.due("a new one goes behind all", 4, () -> x.limit(1, 0, 0, 0, 9));
        Check.due("as the last", " 2 3 4 5 9", () -> boundsByY(x, 5));
    }

    /** The bounds of the limits by their numbers: y times the bound is all that is in an END. */
    private static String boundsByY(AmountPlanner x, int limits) {
        StringBuilder text = new StringBuilder();
        for (int i = 0; i < limits; i++) {
            int[] y = new int[6];
            y[i] = 1;
            x.end(0, 1, y[0], y[1], y[2], y[3], y[4], y[5]);
            int bound = 0;
            // The cost is -1 and the weight 1, so e is 0, and s is 0 less the bound.
            while (bound < 10 && !x.sound(-bound, 1)) {
                bound++;
            }
            text.append(' ').append(bound);
        }
        return text.toString();
    }

    private static void treeStays() {
        Check.sentence(6, "(the tree stays: a y is for a number):");
        AmountPlanner x = new AmountPlanner();
        x.start(2);
        x.limit(1, 0, 0, 0, 5);
        x.limit(0, -1, 0, 0, -7);
        x.cost(1, 1);
        x.fork(0, 0, 3, 1, 2);
        x.end(1, 1, 0, 1, 0, 0, 0, 0);
        x.end(2, 1, 0, 1, 0, 0, 0, 0);
        Check.due("y 1 is for limit 1", true, () -> x.sound(7, 1));
        x.drop(0);
        Check.due("there is no limit 1 now", false, () -> x.sound(1, 1));
        Check.due("so y 1 counts for nothing", true, () -> x.sound(0, 1));
        x.limit(0, -1, 0, 0, -6);
        Check.due("the next limit 1 has it", true, () -> x.sound(6, 1));
        Check.due("and not what was limit 1", false, () -> x.sound(7, 1));
        x.drop(1);
        x.end(1, 1, 1, 0, 0, 0, 0, 0);
        x.end(2, 1, 1, 0, 0, 0, 0, 0);
        Check.due("what was limit 1 is limit 0", true, () -> x.sound(7, 1));
        x.drop(0);
        Check.due("no limit, no y", true, () -> x.sound(0, 1));
        Check.due("no limit, no y", false, () -> x.sound(1, 1000000));
    }

    private static void howManyAreLeft() {
        Check.sentence(6, "how many are left.");
        for (int limits = 1; limits <= 6; limits++) {
            AmountPlanner first = planner(limits);
            AmountPlanner last = planner(limits);
            for (int left = limits - 1; left >= 0; left--) {
                int end = left;
                Check.due("the first of " + (left + 1), left, () -> first.drop(0));
                Check.due("the last of " + (left + 1), left, () -> last.drop(end));
                Check.due("those that are left", left == 0 ? 8 : limits - left + 1, () -> most(first));
                Check.due("those that are left", left == 0 ? 8 : 1, () -> most(last));
            }
        }
    }

    private static void noSuchLimit() {
        Check.sentence(6, "IndexOutOfBoundsException.");
        for (int limits = 0; limits <= 6; limits++) {
            AmountPlanner x = planner(limits);
            x.solve(false);
            String told = Check.told(x, 1);
            for (int i : Check.outside(0, limits - 1)) {
                Check.badIndex("drop " + i + " of " + limits, () -> x.drop(i));
            }
            Check.due("they changed nothing", told, () -> Check.told(x, 1));
            if (limits > 0) {
                int last = limits - 1;
                Check.due("the last", last, () -> x.drop(last));
                Check.badIndex("it is there no more", () -> x.drop(last));
            }
        }
        AmountPlanner x = planner(6);
        x.start(1);
        Check.badIndex("start leaves none", () -> x.drop(0));
    }
}
