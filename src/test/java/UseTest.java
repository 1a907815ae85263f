/** 'What it is': one use of all that there is, and 512 calls of one object. */
public final class UseTest {
    private static final int CALLS = 512;

    public static void main(String[] args) {
        oneUse();
        firstAndLastCalls();
        sameCallAgainAndAgain();
        Check.close();
    }

    /** 2 x + 2 y + 3 z is at least 11; z is not whole, and the others are dearer than it is. */
    private static void oneUse() {
        Check.sentence(Check.WHAT_IT_IS, "A planner for a few amounts, some of them whole, within bounds and limits: "
                + "the least cost, the first of the plans that have it, "
                + "and trees that prove that there is none cheaper.");
        AmountPlanner x = new AmountPlanner();
        x.start(3);
        x.amount(0, 0, 3, true);
        x.amount(1, 0, 3, true);
        x.amount(2, 0, 1, false);
        x.cost(0, 2);
        x.cost(1, 2);
        x.cost(2, 1);
        x.limit(-2, -2, -3, 0, -11);
        // x + y = 4 with z = 1 cost 9; x + y = 5 with z = 1 / 3 are dearer, and 3 is not enough.
        Check.due("the first of three plans that cost 9", "9/1: 1/1 3/1 1/1", () -> Check.solved(x, false, 3));
        Check.due("the second one is a plan", true, () -> x.keeps(2, 2, 1, 0, 1));
        Check.due("the third one is a plan", true, () -> x.keeps(3, 1, 1, 0, 1));
        Check.due("a dearer one is a plan", true, () -> x.keeps(6, 9, 1, 0, 3));
        Check.due("a cheaper one is no plan", false, () -> x.keeps(0, 3, 1, 0, 1));
        Check.due("none is cheaper", true, x::prove);
        x.end(0, 1, 1, 0, 0, 0, 0, 0);
        Check.due("a tree of one END proves it, too", true, () -> x.sound(9, 1));
        Check.due("and no more", false, () -> x.sound(9001, 1000));
        x.drop(0);
        x.limit(-2, -2, -3, 0, -10);
        Check.due("with a bound that takes a fraction", "26/3: 1/1 3/1 2/3", () -> Check.solved(x, false, 3));
        Check.due("loosely it is cheaper", "8/1: 1/2 3/1 1/1", () -> Check.solved(x, true, 3));
    }

    /** The last of 512 calls are as good as the first. */
    private static void firstAndLastCalls() {
        Check.sentence(Check.WHAT_IT_IS, "An object is used for at most 512 calls after it has been made; "
                + "what later calls answer is free.");
        AmountPlanner x = new AmountPlanner();
        for (int use = 0; use < 36; use++) {
            fourteenCalls(x, "use " + use + ": ");
        }
        x.start(1);
        x.cost(0, 1);
        x.limit(-2, 0, 0, 0, -5);
        Check.due("call 508", true, () -> x.solve(true));
        Check.due("call 509", 5, () -> x.total(0));
        Check.due("call 510", 2, () -> x.plan(0, 1));
        Check.due("call 511", true, () -> x.solve(false));
        Check.due("call 512", true, x::prove);
    }

    /** Each method of the face once, so that 36 times make 504 calls. */
    private static void fourteenCalls(AmountPlanner x, String use) {
        Check.passes(use + "start", () -> x.start(2));
        Check.passes(use + "amount", () -> x.amount(0, -3, 4, true));
        Check.passes(use + "cost", () -> x.cost(1, -4));
        Check.due(use + "limit", 0, () -> x.limit(6, 4, 0, 0, 3));
        Check.due(use + "solve", true, () -> x.solve(false));
        Check.due(use + "total", -20, () -> x.total(0));
        Check.due(use + "plan", 5, () -> x.plan(1, 0));
        Check.due(use + "prove", true, x::prove);
        Check.due(use + "keeps", true, () -> x.keeps(-3, 0, 0, 0, 1));
        Check.passes(use + "fork", () -> x.fork(0, 0, -1, 1, 1));
        Check.passes(use + "end", () -> x.end(1, 1, 0, 0, 0, 0, 0, 0));
        Check.due(use + "sound", true, () -> x.sound(-32, 1));
        Check.passes(use + "clear", () -> x.clear(1));
        Check.due(use + "drop", 0, () -> x.drop(0));
    }

    private static void sameCallAgainAndAgain() {
        AmountPlanner solved = new AmountPlanner();
        AmountPlanner refused = new AmountPlanner();
        AmountPlanner told = new AmountPlanner();
        for (int call = 1; call <= CALLS; call++) {
            int node = call % 39;
            Check.due("solve, call " + call, true, () -> solved.solve(node % 2 == 0));
            Check.badState("prove, call " + call, refused::prove);
            Check.passes("fork, call " + call, () -> told.fork(node, 0, 0, node + 1, 39));
        }
    }
}
