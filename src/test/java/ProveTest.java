import java.lang.reflect.Field;
import java.util.Random;

/** Promise 15: prove. */
public final class ProveTest {
    public static void main(String[] args) throws ReflectiveOperationException {
        states();
        treeStays();
        manyWholeValues();
        noPlan();
        fractions();
        whatIsWrongIsNotProved();
        Check.close();
    }

    private static void states() {
        AmountPlanner x = new AmountPlanner();
        Check.badState("nothing was solved", x::prove);
        x.solve(true);
        Check.badState("loosely", x::prove);
        x.solve(false);
        Check.due("solved", true, x::prove);
        Check.due("solved, again", true, x::prove);
        x.solve(true);
        Check.badState("the latest was loosely", x::prove);
        Check.due("the plan stays", 0, () -> x.total(0));
        changes(x);
        x.solve(false);
        Check.badIndex("refused", () -> x.amount(1, 0, 0, true));
        Check.badIndex("refused", () -> x.cost(1, 0));
        Check.badArgument("refused", () -> x.limit(10, 0, 0, 0, 0));
        Check.badIndex("refused", () -> x.drop(0));
        Check.badArgument("refused", () -> x.start(0));
        Check.due("refused ones change nothing", true, x::prove);
    }

    private static void changes(AmountPlanner x) {
        Check.Action[] changes = {() -> x.amount(0, 0, 0, true), () -> x.cost(0, 0),
                () -> x.limit(0, 0, 0, 0, 0), () -> x.drop(0), () -> x.start(1)};
        for (Check.Action change : changes) {
            x.solve(false);
            Check.due("solved", true, x::prove);
            Check.passes("a change", change);
            Check.badState("changed since", x::prove);
        }
    }

    private static void treeStays() {
        AmountPlanner x = new AmountPlanner();
        x.start(2);
        x.limit(2, 2, 0, 0, 9);
        x.cost(0, -1);
        x.cost(1, -1);
        x.solve(false);
        Check.due("prove", true, x::prove);
        Check.due("the tree is nothing still", false, () -> x.sound(-4, 1));
        x.end(0, 2, 1, 0, 0, 0, 0, 0);
        Check.due("prove", true, x::prove);
        Check.due("the end is as told", true, () -> x.sound(-9, 2));
        Check.due("the end is as told", false, () -> x.sound(-4, 1));
        Check.due("the plan stays", "-4/1: 0/1 4/1", () -> Check.told(x, 2));
    }

    /** An even sum is never odd: no end is sound before nearly all amounts have one value. */
    private static void manyWholeValues() {
        AmountPlanner x = new AmountPlanner();
        x.start(4);
        x.limit(8, 6, 4, 2, 81);
        x.limit(-8, -6, -4, -2, -81);
        Check.due("no plan", false, () -> x.solve(false));
        Check.due("prove", true, x::prove);
        x.drop(1);
        for (int j = 0; j < 4; j++) {
            x.cost(j, 2 * j - 8);
        }
        Check.due("solve", true, () -> x.solve(false));
        Check.due("the nearest is 80", -80, () -> x.total(0));
        Check.due("prove", true, x::prove);
    }

    private static void noPlan() {
        AmountPlanner x = new AmountPlanner();
        x.start(3);
        x.amount(1, -20, 20, false);
        x.limit(1, 1, 1, 0, -21);
        Check.due("no plan", false, () -> x.solve(false));
        Check.due("prove", true, x::prove);
        x.cost(0, -9);
        x.cost(1, 9);
        Check.due("no plan, with costs", false, () -> x.solve(false));
        Check.due("prove", true, x::prove);
        x.drop(0);
        x.limit(0, 0, 0, 0, -1);
        Check.due("a limit of nothing", false, () -> x.solve(false));
        Check.due("prove", true, x::prove);
    }

    private static void fractions() {
        AmountPlanner x = new AmountPlanner();
        x.start(4);
        int[] costs = {-7, -9, -6, -8};
        for (int j = 0; j < 4; j++) {
            x.cost(j, costs[j]);
        }
        x.limit(9, 8, 7, 6, 50);
        x.limit(3, 9, 1, 5, 40);
        x.limit(7, 2, 9, 8, 61);
        for (int fractions = 0; fractions < 16; fractions++) {
            for (int j = 0; j < 4; j++) {
                x.amount(j, 0, 8, (fractions >> j & 1) == 0);
            }
            Check.due("solve", true, () -> x.solve(false));
            Check.due("prove", true, x::prove);
        }
    }

    /** From outside prove() is always true, so what was solved is made wrong from inside here. */
    private static void whatIsWrongIsNotProved() throws ReflectiveOperationException {
        Random random = new Random(11);
        for (int k = 0; k < 300; k++) {
            AmountPlanner x = new AmountPlanner();
            x.start(4);
            for (int j = 0; j < 4; j++) {
                x.amount(j, -4, 4, random.nextInt(4) > 0);
                x.cost(j, random.nextInt(19) - 9);
            }
            for (int i = 0; i < 6; i++) {
                x.limit(random.nextInt(19) - 9, random.nextInt(19) - 9, random.nextInt(19) - 9,
                        random.nextInt(19) - 9, random.nextInt(30));
            }
            Check.due("solve", true, () -> x.solve(false));
            Check.due("prove", true, x::prove);
            Object search = field(AmountPlanner.class, "search").get(x);
            Field cost = field(search.getClass(), "bestCost");
            cost.setInt(search, cost.getInt(search) + 1);
            Check.due("a greater cost is not proved", false, x::prove);
            cost.setInt(search, cost.getInt(search) - 2);
            Check.due("a cost below the least is proved, too", true, x::prove);
            field(search.getClass(), "found").setBoolean(search, false);
            Check.due("that there is no plan is not proved", false, x::prove);
        }
    }

    private static Field field(Class<?> type, String name) throws ReflectiveOperationException {
        Field field = type.getDeclaredField(name);
        field.setAccessible(true);
        return field;
    }
}
