import java.util.ArrayList;
import java.util.List;
import java.util.function.Consumer;
import java.util.function.Supplier;

/** 'Terms': what is thrown, when, what comes first, and that it changes nothing. */
public final class TermsThrowsTest {
    private static final Class<IndexOutOfBoundsException> INDEX = IndexOutOfBoundsException.class;
    private static final Class<IllegalArgumentException> ARGUMENT = IllegalArgumentException.class;
    private static final Class<IllegalStateException> STATE = IllegalStateException.class;

    private record Call(String name, Class<? extends Exception> exception, Consumer<AmountPlanner> call) {
    }

    /** How a planner got where it is; told is whether total() answers, proved whether prove() does. */
    private record Way(String name, int amounts, int limits, boolean told, boolean proved,
            Supplier<AmountPlanner> go) {
    }

    private static final Way[] FULL_WAYS = {
        fullWay("solved", true, true, x -> x.solve(false)),
        fullWay("solved loosely", true, false, x -> x.solve(true)),
        fullWay("not solved", false, false, x -> { }),
        fullWay("changed since it was solved", false, false, TermsThrowsTest::solveAndChange),
        fullWay("solved without a plan", false, true, TermsThrowsTest::solveWithoutPlan),
        fullWay("solved loosely without a plan", false, false, TermsThrowsTest::solveLooselyWithoutPlan),
    };

    private static final Way[] OTHER_WAYS = {
        new Way("new", 1, 0, false, false, AmountPlanner::new),
        new Way("new and solved", 1, 0, true, true, TermsThrowsTest::newAndSolved),
        new Way("four amounts", 4, 1, true, true, TermsThrowsTest::fourAmounts),
    };

    private static Way fullWay(String name, boolean told, boolean proved, Consumer<AmountPlanner> last) {
        return new Way(name, 3, 6, told, proved, () -> {
            AmountPlanner x = full();
            last.accept(x);
            return x;
        });
    }

    private static AmountPlanner newAndSolved() {
        AmountPlanner x = new AmountPlanner();
        x.solve(false);
        return x;
    }

    private static AmountPlanner fourAmounts() {
        AmountPlanner x = new AmountPlanner();
        x.start(4);
        x.amount(3, -20, 20, false);
        x.cost(0, -2);
        x.cost(3, -1);
        x.limit(1, 1, 1, 3, 40);
        x.fork(0, 1, 5, 38, 39);
        x.end(38, 1, 1, 0, 0, 0, 0, 0);
        x.end(39, 1, 0, 0, 0, 0, 0, 0);
        x.solve(false);
        return x;
    }

    public static void main(String[] args) {
        changesNothing();
        firstNamedFirst();
        noSuchThing();
        notAsSaid();
        sixLimits();
        notSolvedSinceAChange();
        notSolvedSinceNoChange();
        notSolvedAtAll();
        noPlanToTellOf();
        Check.close();
    }

    /** Three amounts, six limits and a tree with nodes of each kind. */
    private static AmountPlanner full() {
        AmountPlanner x = new AmountPlanner();
        x.start(3);
        x.amount(1, -4, 3, false);
        x.amount(2, 1, 9, true);
        x.cost(0, -3);
        x.cost(1, 2);
        x.cost(2, -1);
        x.limit(2, 1, 3, 0, 29);
        x.limit(1, -2, 0, 0, 7);
        x.limit(-1, 1, 1, 0, 8);
        x.limit(4, 4, 4, 0, 47);
        x.limit(0, -3, 1, 0, 10);
        x.limit(3, 0, 1, 0, 25);
        x.fork(0, 0, 4, 1, 2);
        x.end(1, 1, 1, 1, 0, 0, 0, 0);
        x.fork(2, 2, 3, 3, 39);
        x.end(3, 2, 0, 0, 1, 0, 1, 0);
        x.end(38, 1, 0, 0, 0, 0, 0, 0);
        x.end(39, 3, 0, 0, 0, 0, 0, 3);
        return x;
    }

    private static void solveAndChange(AmountPlanner x) {
        x.solve(false);
        x.cost(0, -3);
    }

    private static void solveWithoutPlan(AmountPlanner x) {
        x.drop(5);
        x.limit(-1, -1, -1, 0, -40);
        x.solve(false);
    }

    private static void solveLooselyWithoutPlan(AmountPlanner x) {
        solveWithoutPlan(x);
        x.solve(true);
    }

    private static void changesNothing() {
        Check.sentence(Check.TERMS, "A call that throws changes nothing;");
        for (Way way : FULL_WAYS) {
            changesNothing(way);
        }
        for (Way way : OTHER_WAYS) {
            changesNothing(way);
        }
    }

    private static void changesNothing(Way way) {
        String before = Looks.of(way.go().get());
        for (Call refused : refusedCalls(way)) {
            AmountPlanner x = way.go().get();
            String what = way.name() + ", " + refused.name();
            Check.refused(what, refused.exception(), () -> refused.call().accept(x));
            Check.refused(what + " again", refused.exception(), () -> refused.call().accept(x));
            Check.due(what + ": what it looks like after it", before, () -> Looks.of(x));
        }
    }

    private static List<Call> refusedCalls(Way way) {
        List<Call> calls = new ArrayList<>();
        addProblemCalls(calls, way);
        addLimitCalls(calls, way);
        addToldCalls(calls, way);
        addTreeCalls(calls);
        addEndCalls(calls);
        return calls;
    }

    private static void addProblemCalls(List<Call> calls, Way way) {
        for (int n : Check.outside(1, 4)) {
            calls.add(new Call("start " + n, ARGUMENT, x -> x.start(n)));
        }
        for (int j : new int[] {-1, way.amounts(), 4, Integer.MIN_VALUE, Integer.MAX_VALUE}) {
            calls.add(new Call("amount " + j, INDEX, x -> x.amount(j, 5, 5, true)));
            calls.add(new Call("amount " + j + ", 0 to 9", INDEX, x -> x.amount(j, 0, 9, true)));
            calls.add(new Call("cost " + j, INDEX, x -> x.cost(j, 5)));
            calls.add(new Call("cost " + j + ", 10", INDEX, x -> x.cost(j, 10)));
        }
        int[][] pairs = {{-21, 5}, {5, 21}, {6, 5}, {Integer.MIN_VALUE, Integer.MAX_VALUE}};
        for (int j = 0; j < way.amounts(); j++) {
            int at = j;
            for (int[] pair : pairs) {
                calls.add(new Call("amount of " + pair[0] + " to " + pair[1], ARGUMENT,
                        x -> x.amount(at, pair[0], pair[1], false)));
                calls.add(new Call("whole amount of " + pair[0] + " to " + pair[1], ARGUMENT,
                        x -> x.amount(at, pair[0], pair[1], true)));
            }
            calls.add(new Call("whole amount of 0 to 9", ARGUMENT, x -> x.amount(at, 0, 9, true)));
            calls.add(new Call("cost 10", ARGUMENT, x -> x.cost(at, 10)));
            calls.add(new Call("cost -10", ARGUMENT, x -> x.cost(at, -10)));
        }
    }

    private static void addLimitCalls(List<Call> calls, Way way) {
        if (way.limits() == 6) {
            calls.add(new Call("a seventh limit", STATE, x -> x.limit(1, 1, 1, 0, 1)));
            calls.add(new Call("a seventh limit of nothing", STATE, x -> x.limit(0, 0, 0, 0, -99)));
        }
        for (int bad : new int[] {-10, 10}) {
            calls.add(new Call("weight a " + bad, ARGUMENT, x -> x.limit(bad, 0, 0, 0, 1)));
            calls.add(new Call("weight b " + bad, ARGUMENT, x -> x.limit(0, bad, 0, 0, 1)));
            calls.add(new Call("weight c " + bad, ARGUMENT, x -> x.limit(0, 0, bad, 0, 1)));
            calls.add(new Call("weight d " + bad, ARGUMENT, x -> x.limit(0, 0, 0, bad, 1)));
            calls.add(new Call("bound " + 10 * bad, ARGUMENT, x -> x.limit(1, 0, 0, 0, 10 * bad)));
            if (way.amounts() < 4) {
                calls.add(new Call("weight d " + bad / 10, ARGUMENT, x -> x.limit(1, 0, 0, bad / 10, 1)));
            }
        }
        for (int i : new int[] {-1, way.limits(), 6, Integer.MIN_VALUE, Integer.MAX_VALUE}) {
            calls.add(new Call("drop " + i, INDEX, x -> x.drop(i)));
        }
    }

    private static void addToldCalls(List<Call> calls, Way way) {
        for (int which : new int[] {-1, 2}) {
            calls.add(new Call("total " + which, ARGUMENT, x -> x.total(which)));
            calls.add(new Call("plan of 0, " + which, ARGUMENT, x -> x.plan(0, which)));
        }
        calls.add(new Call("plan of one too many", INDEX, x -> x.plan(way.amounts(), 0)));
        calls.add(new Call("plan of -1", INDEX, x -> x.plan(-1, 2)));
        if (!way.told()) {
            calls.add(new Call("total", STATE, x -> x.total(0)));
            calls.add(new Call("plan", STATE, x -> x.plan(way.amounts() - 1, 1)));
        }
        if (!way.proved()) {
            calls.add(new Call("prove", STATE, AmountPlanner::prove));
        }
        for (int q : new int[] {0, -1, 1001}) {
            calls.add(new Call("keeps by " + q, ARGUMENT, x -> x.keeps(0, 0, 0, 0, q)));
        }
        for (int p : new int[] {-20001, 20001}) {
            calls.add(new Call("keeps a " + p, ARGUMENT, x -> x.keeps(p, 0, 0, 0, 1)));
            calls.add(new Call("keeps d " + p, ARGUMENT, x -> x.keeps(0, 0, 0, p, 1)));
        }
    }

    private static void addTreeCalls(List<Call> calls) {
        for (int node : new int[] {-1, 40, Integer.MIN_VALUE, Integer.MAX_VALUE}) {
            calls.add(new Call("fork " + node, INDEX, x -> x.fork(node, 0, 4, 38, 38)));
            calls.add(new Call("fork 0 to " + node, INDEX, x -> x.fork(0, 0, 5, node, 38)));
            calls.add(new Call("fork 0 to 38 and " + node, INDEX, x -> x.fork(0, 0, 5, 38, node)));
            calls.add(new Call("clear " + node, INDEX, x -> x.clear(node)));
        }
        for (int node : new int[] {0, 1, 2, 39}) {
            calls.add(new Call("fork " + node + " to itself", INDEX, x -> x.fork(node, 0, 5, node, 38)));
            calls.add(new Call("fork " + node + " to 0", INDEX, x -> x.fork(node, 0, 5, 39, 0)));
        }
        for (int node : new int[] {0, 1, 2, 4}) {
            calls.add(new Call("fork of amount -1", ARGUMENT, x -> x.fork(node, -1, 5, 38, 38)));
            calls.add(new Call("fork of amount 4", ARGUMENT, x -> x.fork(node, 4, 5, 38, 38)));
            calls.add(new Call("fork at -21", ARGUMENT, x -> x.fork(node, 0, -21, 38, 38)));
            calls.add(new Call("fork at 21", ARGUMENT, x -> x.fork(node, 0, 21, 38, 38)));
        }
        for (int p : new int[] {-1000001, 1000001}) {
            calls.add(new Call("sound " + p, ARGUMENT, x -> x.sound(p, 1)));
        }
        for (int q : new int[] {0, -1, 1000001}) {
            calls.add(new Call("sound by " + q, ARGUMENT, x -> x.sound(0, q)));
        }
    }

    private static void addEndCalls(List<Call> calls) {
        for (int node : new int[] {-1, 40, Integer.MIN_VALUE, Integer.MAX_VALUE}) {
            calls.add(new Call("end " + node, INDEX, x -> x.end(node, 1, 0, 0, 0, 0, 0, 0)));
        }
        for (int node : new int[] {0, 1, 2, 4, 39}) {
            for (int k = 0; k < 7; k++) {
                for (int bad : new int[] {-1, 1000001}) {
                    int[] m = {5, 4, 4, 4, 4, 4, 4};
                    m[k] = bad;
                    calls.add(new Call("end " + node + " with " + bad + " at " + k, ARGUMENT,
                            x -> x.end(node, m[0], m[1], m[2], m[3], m[4], m[5], m[6])));
                }
            }
        }
    }

    private static void firstNamedFirst() {
        Check.sentence(Check.TERMS, "of several exceptions the one named first is thrown.");
        for (Way way : FULL_WAYS) {
            AmountPlanner x = way.go().get();
            for (int j : new int[] {-1, 3}) {
                Check.badIndex("amount: the index, then the numbers", () -> x.amount(j, 21, -21, true));
                Check.badIndex("amount: the index, then the width", () -> x.amount(j, 0, 9, true));
                Check.badIndex("cost: the index, then the cost", () -> x.cost(j, 10));
                Check.badIndex("plan: the index, then which, then the state", () -> x.plan(j, 2));
                Check.badIndex("plan: the index, then the state", () -> x.plan(j, 0));
            }
            Check.badArgument("plan: which, then the state", () -> x.plan(2, 2));
            Check.badArgument("plan: which, then the state", () -> x.plan(0, -1));
            Check.badArgument("total: which, then the state", () -> x.total(2));
            Check.badArgument("total: which, then the state", () -> x.total(-1));
            Check.badArgument("limit: a weight, then the state", () -> x.limit(10, 0, 0, 0, 0));
            Check.badArgument("limit: a weight, then the state", () -> x.limit(0, 0, -10, 0, 0));
            Check.badArgument("limit: no such amount, then the state", () -> x.limit(0, 0, 0, 1, 0));
            Check.badArgument("limit: the bound, then the state", () -> x.limit(0, 0, 0, 0, 100));
            Check.badState("limit: the state", () -> x.limit(0, 0, 0, 0, 99));
            Check.badIndex("fork: the node, then the amount", () -> x.fork(40, 4, 0, 38, 39));
            Check.badIndex("fork: its first, then the amount", () -> x.fork(5, 4, 0, 40, 39));
            Check.badIndex("fork: its second, then v", () -> x.fork(5, 0, 21, 38, 5));
            Check.badIndex("end: the node, then w", () -> x.end(40, -1, 0, 0, 0, 0, 0, 0));
            Check.badIndex("end: the node, then the last y", () -> x.end(-1, 0, 0, 0, 0, 0, 0, 1000001));
        }
    }

    private static void noSuchThing() {
        Check.sentence(Check.TERMS, "IndexOutOfBoundsException: there is no such amount, limit, node.");
        AmountPlanner x = full();
        x.solve(false);
        for (int j : Check.outside(0, 2)) {
            Check.badIndex("plan of " + j, () -> x.plan(j, 0));
            Check.badIndex("cost of " + j, () -> x.cost(j, 0));
            Check.badIndex("amount " + j, () -> x.amount(j, 0, 0, true));
        }
        for (int i : Check.outside(0, 5)) {
            Check.badIndex("drop " + i, () -> x.drop(i));
        }
        for (int node : Check.outside(0, 39)) {
            Check.badIndex("clear " + node, () -> x.clear(node));
            Check.badIndex("end " + node, () -> x.end(node, 0, 0, 0, 0, 0, 0, 0));
            Check.badIndex("fork " + node, () -> x.fork(node, 0, 0, 38, 39));
        }
        Check.passes("plan of 2", () -> x.plan(2, 0));
        Check.passes("cost of 2", () -> x.cost(2, 0));
        Check.passes("amount 2", () -> x.amount(2, 0, 0, true));
        Check.due("drop 5", 5, () -> x.drop(5));
        Check.badIndex("drop 5", () -> x.drop(5));
        Check.passes("clear 39", () -> x.clear(39));
        Check.passes("end 39", () -> x.end(39, 0, 0, 0, 0, 0, 0, 0));
        Check.passes("fork 38", () -> x.fork(38, 0, 0, 39, 39));
    }

    private static void notAsSaid() {
        Check.sentence(Check.TERMS, "IllegalArgumentException: another number is not as said.");
        AmountPlanner x = full();
        for (int far : new int[] {Integer.MIN_VALUE, Integer.MAX_VALUE}) {
            Check.badArgument("start", () -> x.start(far));
            Check.badArgument("amount", () -> x.amount(0, far, far, false));
            Check.badArgument("cost", () -> x.cost(0, far));
            Check.badArgument("limit", () -> x.limit(far, far, far, far, far));
            Check.badArgument("total", () -> x.total(far));
            Check.badArgument("plan", () -> x.plan(0, far));
            Check.badArgument("keeps", () -> x.keeps(far, far, far, far, far));
            Check.badArgument("fork", () -> x.fork(0, far, far, 1, 1));
            Check.badArgument("end", () -> x.end(0, far, far, far, far, far, far, far));
            Check.badArgument("sound", () -> x.sound(far, far));
        }
    }

    private static void sixLimits() {
        Check.sentence(Check.TERMS, "IllegalStateException: there are 6 limits,");
        for (int n = 1; n <= 4; n++) {
            AmountPlanner x = new AmountPlanner();
            x.start(n);
            for (int i = 0; i < 6; i++) {
                Check.due("limit " + i, i, () -> x.limit(1, 0, 0, 0, 3));
            }
            for (int more = 0; more < 3; more++) {
                Check.badState("there are six", () -> x.limit(1, 0, 0, 0, 3));
            }
            Check.due("one goes", 5, () -> x.drop(0));
            Check.due("another comes", 5, () -> x.limit(1, 0, 0, 0, 3));
            Check.badState("there are six", () -> x.limit(1, 0, 0, 0, 3));
            x.start(n);
            Check.due("none is left of six", 0, () -> x.limit(1, 0, 0, 0, 3));
        }
    }

    private static void notSolvedSinceAChange() {
        Check.sentence(Check.TERMS, "or nothing was solved since the problem was changed "
                + "(by start(), amount(), cost(), limit(), drop(),");
        List<Call> changes = new ArrayList<>();
        changes.add(new Call("start 2", null, x -> x.start(2)));
        changes.add(new Call("start 4", null, x -> x.start(4)));
        changes.add(new Call("amount 0", null, x -> x.amount(0, 1, 3, true)));
        changes.add(new Call("amount 2", null, x -> x.amount(2, 1, 9, false)));
        changes.add(new Call("cost 0", null, x -> x.cost(0, 1)));
        changes.add(new Call("cost 2", null, x -> x.cost(2, 9)));
        changes.add(new Call("limit", null, x -> x.limit(1, 1, 1, 0, 99)));
        changes.add(new Call("drop 0", null, x -> x.drop(0)));
        changes.add(new Call("drop the last", null, x -> x.drop(4)));
        forget(changes);
    }

    private static void notSolvedSinceNoChange() {
        Check.sentence(Check.TERMS, "also if they tell what was so before),");
        List<Call> changes = new ArrayList<>();
        changes.add(new Call("the same amount 0", null, x -> x.amount(0, 0, 8, true)));
        changes.add(new Call("the same amount 1", null, x -> x.amount(1, -4, 3, false)));
        changes.add(new Call("the same amount 2", null, x -> x.amount(2, 1, 9, true)));
        changes.add(new Call("the same cost 0", null, x -> x.cost(0, -3)));
        changes.add(new Call("the same cost 2", null, x -> x.cost(2, -1)));
        changes.add(new Call("the same limit again", null, x -> x.limit(0, -3, 1, 0, 10)));
        changes.add(new Call("a limit that is always kept", null, x -> x.limit(0, 0, 0, 0, 0)));
        changes.add(new Call("a limit that comes and goes", null, x -> x.drop(x.limit(1, 1, 1, 0, 1))));
        forget(changes);
        AmountPlanner fresh = new AmountPlanner();
        fresh.start(1);
        fresh.solve(false);
        Check.due("solved", 0, () -> fresh.total(0));
        fresh.start(1);
        Check.badState("the same start", () -> fresh.total(0));
        Check.badState("the same start", () -> fresh.plan(0, 0));
        Check.badState("the same start", fresh::prove);
    }

    /** After each change what was solved is gone, whichever way it was solved, and it can be solved again. */
    private static void forget(List<Call> changes) {
        for (Call change : changes) {
            for (int loosely = 0; loosely < 2; loosely++) {
                AmountPlanner x = full();
                x.drop(5);
                x.solve(loosely == 1);
                Check.passes("solved", () -> x.total(0));
                change.call().accept(x);
                for (int which = 0; which < 2; which++) {
                    int part = which;
                    Check.badState("total after " + change.name(), () -> x.total(part));
                    Check.badState("plan after " + change.name(), () -> x.plan(0, part));
                }
                Check.badState("prove after " + change.name(), x::prove);
                x.solve(false);
                Check.due("prove after " + change.name() + ", solved again", true, x::prove);
            }
        }
    }

    private static void notSolvedAtAll() {
        Check.sentence(Check.TERMS, "or at all,");
        for (AmountPlanner x : new AmountPlanner[] {new AmountPlanner(), full()}) {
            for (int which = 0; which < 2; which++) {
                int part = which;
                Check.badState("total", () -> x.total(part));
                Check.badState("plan", () -> x.plan(0, part));
            }
            Check.badState("prove", x::prove);
            x.keeps(0, 0, 0, 0, 1);
            x.sound(0, 1);
            x.clear(0);
            Check.badState("total", () -> x.total(0));
            Check.badState("plan", () -> x.plan(0, 0));
            Check.badState("prove", x::prove);
            x.solve(false);
            Check.passes("total", () -> x.total(0));
            Check.passes("plan", () -> x.plan(0, 0));
            Check.due("prove", true, x::prove);
        }
    }

    private static void noPlanToTellOf() {
        Check.sentence(Check.TERMS, "or (for what is told of it) there was no plan.");
        for (boolean loosely : new boolean[] {false, true}) {
            AmountPlanner x = full();
            x.solve(false);
            solveWithoutPlan(x);
            Check.due("no plan", false, () -> x.solve(loosely));
            for (int which = 0; which < 2; which++) {
                int part = which;
                Check.badState("total", () -> x.total(part));
                for (int j = 0; j < 3; j++) {
                    int at = j;
                    Check.badState("plan of " + j, () -> x.plan(at, part));
                }
            }
            x.solve(false);
            Check.due("prove tells nothing of it", true, x::prove);
            x.drop(5);
            Check.badState("changed, and not solved", () -> x.total(0));
            Check.due("a plan again", true, () -> x.solve(loosely));
            Check.passes("total", () -> x.total(0));
            Check.passes("plan", () -> x.plan(2, 1));
        }
    }
}
