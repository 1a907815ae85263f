import java.util.Random;

/** Promises 7 to 9 and 15: problems of every mixture, most with a plan, compared with the Reference. */
public final class ComparedProblemsTest {
    private static final int PROBLEMS = 800;

    public static void main(String[] args) {
        Random random = new Random(7);
        int plans = 0;
        for (int k = 0; k < PROBLEMS; k++) {
            AmountPlanner x = new AmountPlanner();
            Reference y = new Reference();
            String problem = tell(random, x, y);
            for (int loosely = 0; loosely < 2; loosely++) {
                boolean loose = loosely == 0;
                Check.due(problem + " solve " + loose, y.solve(loose), () -> x.solve(loose));
                plans += Check.answer(() -> y.total(0)).startsWith("throws") ? 0 : 1;
                compareTold(problem + " " + loose, x, y);
            }
            Check.due(problem + " prove", true, x::prove);
        }
        System.out.println(plans + " of " + 2 * PROBLEMS + " have a plan");
        Check.due("many have a plan, and some have none", true, new Between(plans)::isMixed);
        Check.close();
    }

    private record Between(int plans) {
        boolean isMixed() {
            return plans > PROBLEMS && plans < 2 * PROBLEMS - 50;
        }
    }

    private static void compareTold(String problem, AmountPlanner x, Reference y) {
        for (int which = 0; which < 2; which++) {
            int part = which;
            Check.due(problem + " total", Check.answer(() -> y.total(part)), () -> x.total(part));
            for (int j = 0; j < 4; j++) {
                int at = j;
                Check.due(problem + " plan " + j, Check.answer(() -> y.plan(at, part)), () -> x.plan(at, part));
            }
        }
    }

    /** Limits go near a point between the leasts and the mosts; some are turned into equations. */
    private static String tell(Random random, AmountPlanner x, Reference y) {
        StringBuilder text = new StringBuilder();
        int n = 1 + random.nextInt(4);
        int far = random.nextBoolean() ? 9 : 2;
        int[] point = new int[4];
        x.start(n);
        y.start(n);
        for (int j = 0; j < n; j++) {
            boolean whole = random.nextInt(3) > 0;
            int least = -20 + random.nextInt(33);
            int most = least + random.nextInt(whole ? 9 : 21 - least);
            int c = random.nextInt(2 * far + 1) - far;
            point[j] = least + random.nextInt(most - least + 1);
            x.amount(j, least, most, whole);
            y.amount(j, least, most, whole);
            x.cost(j, c);
            y.cost(j, c);
            text.append(least).append("..").append(most).append(whole ? " whole " : " ").append(c).append("; ");
        }
        int m = random.nextInt(7);
        for (int i = 0; i < m; i++) {
            int[] w = new int[4];
            int sum = 0;
            for (int j = 0; j < n; j++) {
                w[j] = random.nextInt(2 * far + 1) - far;
                sum += w[j] * point[j];
            }
            int bound = Math.max(-99, Math.min(99, sum + random.nextInt(12) - 1));
            tellLimit(x, y, w, bound, text);
            if (i + 1 < m && random.nextInt(4) == 0) {
                i++;
                tellLimit(x, y, new int[] {-w[0], -w[1], -w[2], -w[3]}, -bound, text);
            }
        }
        return text.toString();
    }

    private static void tellLimit(AmountPlanner x, Reference y, int[] w, int bound, StringBuilder text) {
        x.limit(w[0], w[1], w[2], w[3], bound);
        y.limit(w[0], w[1], w[2], w[3], bound);
        for (int j = 0; j < 4; j++) {
            text.append(w[j]).append(' ');
        }
        text.append("<= ").append(bound).append("; ");
    }
}
