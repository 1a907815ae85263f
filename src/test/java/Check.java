import java.util.TreeSet;
import java.util.concurrent.Callable;

/** What the tests share: answers as texts, and a count of those that are wrong. */
final class Check {
    static final int WHAT_IT_IS = -1;
    static final int TERMS = 0;

    private static int wrong = 0;
    private static int looked = 0;
    private static String sentence = "";
    private static int lookedBefore = 0;

    interface Action {
        void run() throws Exception;
    }

    private Check() {
    }

    /**
     * Begins the test of a sentence of the document: of a promise, of 'Terms' (TERMS), or of 'What
     * it is' (WHAT_IT_IS). It is quoted as it stands there, so that SentencesTest can see that none
     * was left out.
     */
    static void sentence(int section, String quote) {
        closeSentence();
        sentence = sectionName(section) + ", '" + quote + "': ";
        lookedBefore = looked;
    }

    static String sectionName(int section) {
        return section == WHAT_IT_IS ? "What it is" : section == TERMS ? "Terms" : "Promise " + section;
    }

    private static void closeSentence() {
        if (!sentence.isEmpty() && looked == lookedBefore) {
            wrong++;
            System.out.println(sentence + "no answer was looked at");
        }
    }

    /** The answer of a call, or throws. and the name of its exception. */
    static String answer(Callable<?> call) {
        try {
            return String.valueOf(call.call());
        } catch (Exception e) {
            return "throws." + e.getClass().getSimpleName();
        }
    }

    static void due(String what, Object want, Callable<?> call) {
        String got = answer(call);
        looked++;
        if (!got.equals(String.valueOf(want))) {
            wrong++;
            System.out.println(sentence + what + " answered " + got + ", due is " + want);
        }
    }

    static void passes(String what, Action action) {
        due(what, "nothing thrown", () -> done(action));
    }

    static void refused(String what, Class<? extends Exception> exception, Action action) {
        due(what, "throws." + exception.getSimpleName(), () -> done(action));
    }

    static void badIndex(String what, Action action) {
        refused(what, IndexOutOfBoundsException.class, action);
    }

    static void badArgument(String what, Action action) {
        refused(what, IllegalArgumentException.class, action);
    }

    static void badState(String what, Action action) {
        refused(what, IllegalStateException.class, action);
    }

    static String done(Action action) throws Exception {
        action.run();
        return "nothing thrown";
    }

    /**
     * Numbers that are not low .. high: the first ones on each side, some that would be inside in a
     * type of 8 or 16 bits, and the last ones that there are.
     */
    static int[] outside(int low, int high) {
        TreeSet<Integer> numbers = new TreeSet<>();
        for (int far : new int[] {256, 65536, 1 << 24}) {
            numbers.add(low - far);
            numbers.add(low + far);
            numbers.add(high - far);
            numbers.add(high + far);
        }
        numbers.removeIf(x -> x >= low && x <= high);
        numbers.add(low - 1);
        numbers.add(high + 1);
        numbers.add(Integer.MIN_VALUE);
        numbers.add(Integer.MAX_VALUE);
        return numbers.stream().mapToInt(Integer::intValue).toArray();
    }

    /** The total and the amounts of the latest solve, as fractions. */
    static String told(AmountPlanner x, int amounts) {
        StringBuilder text = new StringBuilder();
        text.append(x.total(0)).append('/').append(x.total(1)).append(':');
        for (int j = 0; j < amounts; j++) {
            text.append(' ').append(x.plan(j, 0)).append('/').append(x.plan(j, 1));
        }
        return text.toString();
    }

    /** Solves, and tells the total and the amounts. */
    static String solved(AmountPlanner x, boolean loosely, int amounts) {
        return x.solve(loosely) ? told(x, amounts) : "no plan";
    }

    /** Ends a test: with exit code 1 if an answer was wrong, or if none was looked at. */
    static void close() {
        closeSentence();
        System.out.println(looked + " answers looked at, " + wrong + " wrong");
        if (wrong > 0 || looked == 0) {
            System.exit(1);
        }
    }
}
