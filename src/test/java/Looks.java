import java.util.concurrent.Callable;

/** All that can be seen of a planner from outside, to see whether two are the same. */
final class Looks {
    private final AmountPlanner x;
    private final StringBuilder text = new StringBuilder();

    private Looks(AmountPlanner x) {
        this.x = x;
    }

    /** Some 410 calls, which change the planner: it has no more to tell after them. */
    static String of(AmountPlanner x) {
        Looks looks = new Looks(x);
        looks.lookAtWhatWasSolved();
        looks.lookAtPlans();
        looks.lookAtTheTree();
        looks.lookAtTheLimits();
        return looks.text.toString();
    }

    private void tell(Callable<?> call) {
        text.append(Check.answer(call)).append(' ');
    }

    private void lookAtWhatWasSolved() {
        for (int which = 0; which < 2; which++) {
            int part = which;
            tell(() -> x.total(part));
            for (int j = 0; j < 4; j++) {
                int at = j;
                tell(() -> x.plan(at, part));
            }
        }
        tell(x::prove);
    }

    private void lookAtPlans() {
        for (int j = 0; j < 4; j++) {
            for (int p : new int[] {-1, 1, 2, 5, 6, 7, 16, 17}) {
                int[] a = {2, 2, 2, 2};
                a[j] = p;
                tell(() -> x.keeps(a[0], a[1], a[2], a[3], 2));
            }
        }
    }

    /** First as it was told, and then one node after the other behind node 0. */
    private void lookAtTheTree() {
        for (int p = -150; p <= 90; p += 6) {
            int bound = p;
            tell(() -> x.sound(bound, 3));
        }
        for (int node = 1; node < 40; node++) {
            x.fork(0, 0, 2, node, node);
            for (int p : new int[] {-45, -41, -38, -33, -20}) {
                tell(() -> x.sound(p, 1));
            }
        }
    }

    /** The problem with all limits, without the first one, and so on. */
    private void lookAtTheLimits() {
        for (int round = 0; round < 7; round++) {
            boolean loosely = round % 2 == 1;
            tell(() -> x.solve(loosely));
            lookAtWhatWasSolved();
            tell(() -> x.drop(0));
        }
    }
}
