import java.util.concurrent.Callable;

/** What the tests share: answers as texts, and a count of those that are wrong. */
final class Check {
    private static int wrong = 0;
    private static int looked = 0;

    interface Action {
        void run() throws Exception;
    }

    private Check() {
    }

    /** The answer of a call, or throws. and the name of its exception. */
    static String answer(Callable<?> call) {
        try {
            return String.valueOf(call.call());
        } catch (Exception e) {
            return "throws." + e.getClass().getSimpleName();
        }
    }

    static void due(String what, Object want, Callable<?> call) {
        String got = answer(call);
        looked++;
        if (!got.equals(String.valueOf(want))) {
            wrong++;
            System.out.println(what + " answered " + got + ", due is " + want);
        }
    }

    static void passes(String what, Action action) {
        due(what, "nothing thrown", () -> done(action));
    }

    static void refused(String what, Class<? extends Exception> exception, Action action) {
        due(what, "throws." + exception.getSimpleName(), () -> done(action));
    }

    static void badIndex(String what, Action action) {
        refused(what, IndexOutOfBoundsException.class, action);
    }

    static void badArgument(String what, Action action) {
        refused(what, IllegalArgumentException.class, action);
    }

    static void badState(String what, Action action) {
        refused(what, IllegalStateException.class, action);
    }

    static String done(Action action) throws Exception {
        action.run();
        return "nothing thrown";
    }

    /** The total and the amounts of the latest solve, as fractions. */
    static String told(AmountPlanner x, int amounts) {
        StringBuilder text = new StringBuilder();
        text.append(x.total(0)).append('/').append(x.total(1)).append(':');
        for (int j = 0; j < amounts; j++) {
            text.append(' ').append(x.plan(j, 0)).append('/').append(x.plan(j, 1));
        }
        return text.toString();
    }

    /** Ends a test: with exit code 1 if an answer was wrong, or if none was looked at. */
    static void close() {
        System.out.println(looked + " answers looked at, " + wrong + " wrong");
        if (wrong > 0 || looked == 0) {
            System.exit(1);
        }
    }
}
