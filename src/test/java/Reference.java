import java.math.BigInteger;
import java.util.ArrayList;
import java.util.List;

/**
 * The document in its plainest and slowest form, to compare with: every value of the whole amounts
 * is tried, and for the others every choice of as many equations (of leasts, mosts and limits) as
 * there are amounts, with fractions of any size.
 */
final class Reference {
    record Fraction(BigInteger p, BigInteger q) implements Comparable<Fraction> {
        static Fraction of(long p, long q) {
            return of(BigInteger.valueOf(p), BigInteger.valueOf(q));
        }

        static Fraction of(BigInteger p, BigInteger q) {
            BigInteger common = p.gcd(q);
            if (q.signum() < 0) {
                common = common.negate();
            }
            return new Fraction(p.divide(common), q.divide(common));
        }

        static Fraction of(long p) {
            return of(p, 1);
        }

        Fraction plus(Fraction o) {
            return of(p.multiply(o.q).add(o.p.multiply(q)), q.multiply(o.q));
        }

        Fraction minus(Fraction o) {
            return plus(new Fraction(o.p.negate(), o.q));
        }

        Fraction times(Fraction o) {
            return of(p.multiply(o.p), q.multiply(o.q));
        }

        Fraction over(Fraction o) {
            return of(p.multiply(o.q), q.multiply(o.p));
        }

        boolean isZero() {
            return p.signum() == 0;
        }

        @Override
        public int compareTo(Fraction o) {
            return p.multiply(o.q).compareTo(o.p.multiply(q));
        }
    }

    private record Amount(int least, int most, boolean whole) {
    }

    /** Weights times amounts are at most the bound. */
    private record Row(int[] weights, int bound) {
    }

    private record Fork(int j, int v, int first, int second) {
    }

    private record End(int w, int[] y) {
    }

    private final List<Amount> amounts = new ArrayList<>();
    private final List<Integer> costs = new ArrayList<>();
    private final List<Row> limits = new ArrayList<>();
    private final Object[] nodes = new Object[40];
    private boolean solved = false;
    private boolean loosely = false;
    /** The cost, then the amounts; null if there is no plan. */
    private Fraction[] best = null;

    Reference() {
        amounts.add(new Amount(0, 0, true));
        costs.add(0);
    }

    private static void index(boolean fine) {
        if (!fine) {
            throw new IndexOutOfBoundsException();
        }
    }

    private static void argument(boolean fine) {
        if (!fine) {
            throw new IllegalArgumentException();
        }
    }

    private static void state(boolean fine) {
        if (!fine) {
            throw new IllegalStateException();
        }
    }

    private static boolean in(long x, long low, long high) {
        return low <= x && x <= high;
    }

    void start(int n) {
        argument(in(n, 1, 4));
        amounts.clear();
        costs.clear();
        limits.clear();
        for (int j = 0; j < n; j++) {
            amounts.add(new Amount(0, 8, true));
            costs.add(0);
        }
        solved = false;
    }

    void amount(int j, int least, int most, boolean whole) {
        index(in(j, 0, amounts.size() - 1));
        argument(in(least, -20, 20) && in(most, -20, 20) && least <= most);
        argument(!whole || most - least <= 8);
        amounts.set(j, new Amount(least, most, whole));
        solved = false;
    }

    void cost(int j, int c) {
        index(in(j, 0, amounts.size() - 1));
        argument(in(c, -9, 9));
        costs.set(j, c);
        solved = false;
    }

    int limit(int a, int b, int c, int d, int bound) {
        int[] weights = {a, b, c, d};
        for (int j = 0; j < 4; j++) {
            argument(j < amounts.size() ? in(weights[j], -9, 9) : weights[j] == 0);
        }
        argument(in(bound, -99, 99));
        state(limits.size() < 6);
        limits.add(new Row(weights, bound));
        solved = false;
        return limits.size() - 1;
    }

    int drop(int i) {
        index(in(i, 0, limits.size() - 1));
        limits.remove(i);
        solved = false;
        return limits.size();
    }

    boolean solve(boolean loose) {
        solved = true;
        loosely = loose;
        best = null;
        chooseWholes(0, new int[4]);
        return best != null;
    }

    private boolean mustBeWhole(int j) {
        return amounts.get(j).whole() && !loosely;
    }

    private void chooseWholes(int j, int[] value) {
        if (j == amounts.size()) {
            chooseRest(value);
        } else if (mustBeWhole(j)) {
            for (int v = amounts.get(j).least(); v <= amounts.get(j).most(); v++) {
                value[j] = v;
                chooseWholes(j + 1, value);
            }
        } else {
            chooseWholes(j + 1, value);
        }
    }

    private void chooseRest(int[] value) {
        List<Integer> open = new ArrayList<>();
        for (int j = 0; j < amounts.size(); j++) {
            if (!mustBeWhole(j)) {
                open.add(j);
            }
        }
        List<Fraction[]> equations = new ArrayList<>();
        for (int k = 0; k < open.size(); k++) {
            for (int bound : new int[] {amounts.get(open.get(k)).least(), amounts.get(open.get(k)).most()}) {
                Fraction[] row = new Fraction[open.size() + 1];
                for (int m = 0; m < open.size(); m++) {
                    row[m] = Fraction.of(m == k ? 1 : 0);
                }
                row[open.size()] = Fraction.of(bound);
                equations.add(row);
            }
        }
        for (Row limit : limits) {
            Fraction[] row = new Fraction[open.size() + 1];
            int rest = limit.bound();
            for (int j = 0; j < amounts.size(); j++) {
                rest -= mustBeWhole(j) ? limit.weights()[j] * value[j] : 0;
            }
            for (int m = 0; m < open.size(); m++) {
                row[m] = Fraction.of(limit.weights()[open.get(m)]);
            }
            row[open.size()] = Fraction.of(rest);
            equations.add(row);
        }
        chooseEquations(equations, 0, new ArrayList<>(), open, value);
    }

    private void chooseEquations(List<Fraction[]> all, int from, List<Fraction[]> chosen, List<Integer> open, int[] value) {
        if (chosen.size() == open.size()) {
            Fraction[] rest = solveEquations(chosen);
            if (rest != null) {
                consider(rest, open, value);
            }
            return;
        }
        for (int k = from; k < all.size(); k++) {
            chosen.add(all.get(k));
            chooseEquations(all, k + 1, chosen, open, value);
            chosen.remove(chosen.size() - 1);
        }
    }

    /** Gauss and Jordan; null if the equations do not tell one answer. */
    private static Fraction[] solveEquations(List<Fraction[]> rows) {
        int n = rows.size();
        Fraction[][] m = new Fraction[n][];
        for (int i = 0; i < n; i++) {
            m[i] = rows.get(i).clone();
        }
        for (int k = 0; k < n; k++) {
            int pivot = k;
            while (pivot < n && m[pivot][k].isZero()) {
                pivot++;
            }
            if (pivot == n) {
                return null;
            }
            Fraction[] swap = m[k];
            m[k] = m[pivot];
            m[pivot] = swap;
            for (int i = 0; i < n; i++) {
                if (i != k && !m[i][k].isZero()) {
                    Fraction times = m[i][k].over(m[k][k]);
                    for (int c = k; c <= n; c++) {
                        m[i][c] = m[i][c].minus(times.times(m[k][c]));
                    }
                }
            }
        }
        Fraction[] x = new Fraction[n];
        for (int k = 0; k < n; k++) {
            x[k] = m[k][n].over(m[k][k]);
        }
        return x;
    }

    private void consider(Fraction[] rest, List<Integer> open, int[] value) {
        int n = amounts.size();
        Fraction[] x = new Fraction[n];
        for (int j = 0; j < n; j++) {
            int at = open.indexOf(j);
            x[j] = at < 0 ? Fraction.of(value[j]) : rest[at];
        }
        if (!isKept(x)) {
            return;
        }
        Fraction[] told = new Fraction[n + 1];
        told[0] = Fraction.of(0);
        for (int j = 0; j < n; j++) {
            told[0] = told[0].plus(Fraction.of(costs.get(j)).times(x[j]));
            told[j + 1] = x[j];
        }
        if (best == null || java.util.Arrays.compare(told, best) < 0) {
            best = told;
        }
    }

    private boolean isKept(Fraction[] x) {
        for (int j = 0; j < amounts.size(); j++) {
            if (x[j].compareTo(Fraction.of(amounts.get(j).least())) < 0
                    || x[j].compareTo(Fraction.of(amounts.get(j).most())) > 0) {
                return false;
            }
        }
        for (Row limit : limits) {
            Fraction sum = Fraction.of(0);
            for (int j = 0; j < amounts.size(); j++) {
                sum = sum.plus(Fraction.of(limit.weights()[j]).times(x[j]));
            }
            if (sum.compareTo(Fraction.of(limit.bound())) > 0) {
                return false;
            }
        }
        return true;
    }

    int total(int which) {
        argument(in(which, 0, 1));
        state(solved && best != null);
        return part(best[0], which);
    }

    int plan(int j, int which) {
        index(in(j, 0, amounts.size() - 1));
        argument(in(which, 0, 1));
        state(solved && best != null);
        return part(best[j + 1], which);
    }

    private static int part(Fraction x, int which) {
        return (which == 0 ? x.p() : x.q()).intValueExact();
    }

    boolean keeps(int a, int b, int c, int d, int q) {
        argument(in(q, 1, 1000));
        int[] p = {a, b, c, d};
        for (int number : p) {
            argument(in(number, -20000, 20000));
        }
        Fraction[] x = new Fraction[amounts.size()];
        for (int j = 0; j < x.length; j++) {
            x[j] = Fraction.of(p[j], q);
            if (amounts.get(j).whole() && !x[j].q().equals(BigInteger.ONE)) {
                return false;
            }
        }
        return isKept(x);
    }

    void fork(int node, int j, int v, int first, int second) {
        index(in(node, 0, 39));
        index(in(first, node + 1, 39) && in(second, node + 1, 39));
        argument(in(j, 0, 3) && in(v, -20, 20));
        nodes[node] = new Fork(j, v, first, second);
    }

    void end(int node, int w, int[] y) {
        index(in(node, 0, 39));
        argument(in(w, 0, 1000000));
        for (int number : y) {
            argument(in(number, 0, 1000000));
        }
        nodes[node] = new End(w, y.clone());
    }

    void clear(int node) {
        index(in(node, 0, 39));
        nodes[node] = null;
    }

    boolean sound(int p, int q) {
        argument(in(p, -1000000, 1000000) && in(q, 1, 1000000));
        int[] least = new int[amounts.size()];
        int[] most = new int[amounts.size()];
        for (int j = 0; j < least.length; j++) {
            least[j] = amounts.get(j).least();
            most[j] = amounts.get(j).most();
        }
        return isSound(0, least, most, Fraction.of(p, q));
    }

    private boolean isSound(int node, int[] least, int[] most, Fraction bound) {
        if (nodes[node] instanceof End end) {
            return isSoundEnd(end, least, most, bound);
        }
        if (!(nodes[node] instanceof Fork fork)) {
            return false;
        }
        int j = fork.j();
        if (j >= least.length || !amounts.get(j).whole() || fork.v() < least[j] || fork.v() >= most[j]) {
            return false;
        }
        int[] lower = most.clone();
        lower[j] = fork.v();
        int[] upper = least.clone();
        upper[j] = fork.v() + 1;
        return isSound(fork.first(), least, lower, bound) && isSound(fork.second(), upper, most, bound);
    }

    private boolean isSoundEnd(End end, int[] least, int[] most, Fraction bound) {
        Fraction s = Fraction.of(0);
        for (int j = 0; j < least.length; j++) {
            BigInteger e = BigInteger.valueOf(end.w()).multiply(BigInteger.valueOf(costs.get(j)));
            for (int i = 0; i < limits.size(); i++) {
                e = e.add(BigInteger.valueOf(end.y()[i]).multiply(BigInteger.valueOf(limits.get(i).weights()[j])));
            }
            s = s.plus(Fraction.of(e.multiply(BigInteger.valueOf(e.signum() >= 0 ? least[j] : most[j])), BigInteger.ONE));
        }
        for (int i = 0; i < limits.size(); i++) {
            s = s.minus(Fraction.of((long) end.y()[i] * limits.get(i).bound()));
        }
        if (end.w() == 0) {
            return s.p().signum() > 0;
        }
        return s.over(Fraction.of(end.w())).compareTo(bound) >= 0;
    }

    /** A tree always proves it (LP duality), so only the states matter here. */
    boolean prove() {
        state(solved && !loosely);
        return true;
    }
}
