import java.util.ArrayList;
import java.util.Arrays;
import java.util.List;

/**
 * Runs of calls on fresh objects, each answer held against a model that works in another way: it never
 * reduces a function, but tells by ranks what lowest terms must be, and it counts certificates by ranks
 * of equations at places of the field.
 */
public final class CertificateSumsModel extends Checks {
    private static final int P = 32003;
    private static final int PLACES = 100;
    private static final int MOST_CALLS = 512;

    private static long seed = 20261115L;
    private static int found = 0;
    private static int freeSeen = 0;
    private static int tooGreatSeen = 0;
    private static int fullSeen = 0;

    /** An object, how often it has been used, and what the model knows of it. */
    private static final class Used {
        private final CertificateSums x = new CertificateSums();
        private int calls = 0;
        final long[][] ratio = {{1, 0, 0, 0}, {1, 0, 0, 0}};
        final List<long[][]> functions = new ArrayList<>();
        final String run;

        Used(String run) {
            this.run = run;
        }

        CertificateSums use() {
            calls++;
            if (calls > MOST_CALLS) {
                throw new AssertionError("nothing is promised of so many calls");
            }
            return x;
        }

        int left() {
            return MOST_CALLS - calls;
        }

        int count() {
            return functions.size();
        }

        long[] top(int f) {
            return functions.get(f)[0];
        }

        long[] bottom(int f) {
            return functions.get(f)[1];
        }

        /** Reads a function that has just been made, and keeps it. */
        void keep(int f) {
            functions.add(new long[][] {read(f, true), read(f, false)});
        }

        private long[] read(int f, boolean top) {
            long[] numbers = new long[use().degree(f, top) + 1];
            for (int k = 0; k < numbers.length; k++) {
                numbers[k] = use().at(f, top, k);
            }
            return numbers;
        }
    }

    private static int below(int bound) {
        seed = seed * 6364136223846793005L + 1442695040888963407L;
        return (int) ((seed >>> 33) % bound);
    }

    private static long mod(long v) {
        return Math.floorMod(v, (long) P);
    }

    private static long power(long base, int exponent) {
        long result = 1;
        for (int k = 0; k < exponent; k++) {
            result = result * base % P;
        }
        return result;
    }

    private static long inverse(long v) {
        long a = mod(v);
        long b = P;
        long s = 1;
        long t = 0;
        while (b != 0) {
            long whole = a / b;
            long rest = a - whole * b;
            a = b;
            b = rest;
            long next = s - whole * t;
            s = t;
            t = next;
        }
        return mod(s);
    }

    private static long horner(long[] numbers, long place) {
        long sum = 0;
        for (int k = numbers.length - 1; k >= 0; k--) {
            sum = mod(sum * mod(place) + numbers[k]);
        }
        return sum;
    }

    /** Rank by rows, with exchange of rows, over the columns from 0 up to one. */
    private static int rank(List<long[]> rows, int columns, boolean withTarget) {
        List<long[]> rest = new ArrayList<>();
        for (long[] row : rows) {
            long[] copy = new long[columns + (withTarget ? 1 : 0)];
            System.arraycopy(row, 0, copy, 0, columns);
            if (withTarget) {
                copy[columns] = row[row.length - 1];
            }
            rest.add(copy);
        }
        int rank = 0;
        int width = columns + (withTarget ? 1 : 0);
        for (int c = 0; c < width; c++) {
            int pivot = -1;
            for (int i = rank; i < rest.size() && pivot < 0; i++) {
                pivot = rest.get(i)[c] != 0 ? i : -1;
            }
            if (pivot < 0) {
                continue;
            }
            long[] row = rest.get(pivot);
            rest.set(pivot, rest.get(rank));
            rest.set(rank, row);
            long factor = inverse(row[c]);
            for (int i = rank + 1; i < rest.size(); i++) {
                long share = rest.get(i)[c] * factor % P;
                for (int k = c; k < width; k++) {
                    rest.get(i)[k] = mod(rest.get(i)[k] - share * row[k]);
                }
            }
            rank++;
        }
        return rank;
    }

    /** One equation for each place: what the powers of y bring there, and what is to come out. */
    private static List<long[]> equations(long[] rTop, long[] rBottom, long[] q, long[][] ratio) {
        List<long[]> rows = new ArrayList<>();
        for (int place = 5; place < 5 + PLACES; place++) {
            long b = horner(rBottom, place);
            long here = horner(q, place);
            long next = horner(q, place + 1);
            long up = b * here % P * horner(ratio[0], place) % P;
            long stay = b * next % P * horner(ratio[1], place) % P;
            long[] row = new long[10];
            for (int k = 0; k <= 8; k++) {
                row[k] = mod(up * power(place + 1, k) - stay * power(place, k));
            }
            row[9] = horner(rTop, place) * horner(ratio[1], place) % P * here % P * next % P;
            rows.add(row);
        }
        return rows;
    }

    private static boolean isFree(List<long[]> rows, int power) {
        return rank(rows, power + 1, false) == rank(rows, power, false);
    }

    private static boolean solvable(List<long[]> rows, int d) {
        return rank(rows, d + 1, false) == rank(rows, d + 1, true);
    }

    private static boolean zero(long[] numbers) {
        for (long v : numbers) {
            if (v != 0) {
                return false;
            }
        }
        return true;
    }

    private static void certificates(Used u, int r, int q, int d) {
        String two = "(" + r + ", " + q;
        String what = u.run + "find" + two + ", " + d + ")";
        if (zero(u.top(q)) || zero(u.ratio[1])) {
            due(u.run + "least" + two + ")", () -> u.use().least(r, q), ZERO);
            due(u.run + "free(" + q + ", " + d + ")", () -> u.use().free(q, d), ZERO);
            due(what, () -> u.use().find(r, q, d), ZERO);
            return;
        }
        List<long[]> rows = equations(u.top(r), u.bottom(r), u.top(q), u.ratio);
        int least = leastBound(rows);
        due(u.run + "least" + two + ")", () -> u.use().least(r, q), least);
        if (d < 0 || d > 8) {
            due(u.run + "free(" + q + ", " + d + ")", () -> u.use().free(q, d), WRONG);
            due(what, () -> u.use().find(r, q, d), WRONG);
            return;
        }
        int free = freeUpTo(rows, d);
        freeSeen += free;
        due(u.run + "free(" + q + ", " + d + ")", () -> u.use().free(q, d), free);
        if (u.count() == 50) {
            due(what, () -> u.use().find(r, q, d), FULL);
        } else if (least < 0 || least > d) {
            due(what, () -> u.use().find(r, q, d), -1);
        } else {
            found++;
            due(what, () -> u.use().find(r, q, d), u.count());
            u.keep(u.count());
            checkPlain(what, u, r, u.top(q), rows);
        }
    }

    private static int leastBound(List<long[]> rows) {
        for (int d = 0; d <= 8; d++) {
            if (solvable(rows, d)) {
                return d;
            }
        }
        return -1;
    }

    private static int freeUpTo(List<long[]> rows, int d) {
        int free = 0;
        for (int k = 0; k <= d; k++) {
            free += isFree(rows, k) ? 1 : 0;
        }
        return free;
    }

    /** Gets y back from its values, as y is what was found times q's TOP. */
    private static void checkPlain(String what, Used u, int r, long[] base, List<long[]> rows) {
        int last = u.count() - 1;
        due(what + " proves", () -> u.use().proves(r, last), true);
        due(what + " is proper", () -> proper(u.functions.get(last)), true);
        List<long[]> system = new ArrayList<>();
        for (int place = 7; place < 7 + PLACES; place++) {
            long[] row = new long[10];
            for (int k = 0; k <= 8; k++) {
                row[k] = power(place, k) * horner(u.bottom(last), place) % P;
            }
            row[9] = horner(u.top(last), place) * horner(base, place) % P;
            system.add(row);
        }
        for (int k = 0; k <= 8; k++) {
            if (isFree(rows, k)) {
                // Without the power k there is still such a y.
                for (long[] row : system) {
                    row[k] = 0;
                }
            }
        }
        due(what + " is plain", () -> solvable(system, 8), true);
    }

    private static boolean proper(long[][] function) {
        long[] bottom = function[1];
        return degree(function[0]) == function[0].length - 1 && function[0].length <= 21
                && bottom.length > 0 && bottom.length <= 21 && bottom[bottom.length - 1] == 1
                && commonDegree(function[0], bottom) == 0;
    }

    private static int degree(long[] numbers) {
        int k = numbers.length - 1;
        while (k >= 0 && numbers[k] == 0) {
            k--;
        }
        return k;
    }

    /** The degree of the greatest common divisor, by the rank of Sylvester's matrix. */
    private static int commonDegree(long[] f, long[] g) {
        int m = degree(f);
        int n = degree(g);
        if (m < 0) {
            return n;
        }
        List<long[]> rows = new ArrayList<>();
        for (int k = 0; k < n; k++) {
            long[] row = new long[m + n];
            System.arraycopy(f, 0, row, k, m + 1);
            rows.add(row);
        }
        for (int k = 0; k < m; k++) {
            long[] row = new long[m + n];
            System.arraycopy(g, 0, row, k, n + 1);
            rows.add(row);
        }
        return m + n - rank(rows, m + n, false);
    }

    private static long[] product(long[] f, long[] g) {
        long[] result = new long[Math.max(f.length + g.length - 1, 0)];
        for (int i = 0; i < f.length; i++) {
            for (int k = 0; k < g.length; k++) {
                result[i + k] = mod(result[i + k] + f[i] * g[k]);
            }
        }
        return result;
    }

    private static long[] sum(long[] f, long[] g, int sign) {
        long[] result = new long[Math.max(f.length, g.length)];
        for (int k = 0; k < result.length; k++) {
            result[k] = mod((k < f.length ? f[k] : 0) + sign * (k < g.length ? g[k] : 0));
        }
        return result;
    }

    /** By the powers of n + 1, one after the other. */
    private static long[] movedOn(long[] f) {
        long[] result = {};
        long[] power = {1};
        for (long v : f) {
            result = sum(result, product(new long[] {v}, power), 1);
            power = product(power, new long[] {1, 1});
        }
        return result;
    }

    /** TOP and BOTTOM of what a call should make, not in lowest terms. */
    private static long[][] raw(Used u, int kind, int f, int g) {
        long[] t = u.top(f);
        long[] b = u.bottom(f);
        switch (kind) {
            case 0:
                return new long[][] {
                    sum(product(t, u.bottom(g)), product(u.top(g), b), 1), product(b, u.bottom(g))
                };
            case 1: return new long[][] {product(t, u.top(g)), product(b, u.bottom(g))};
            case 2: return new long[][] {product(t, u.bottom(g)), product(b, u.top(g))};
            case 3: return new long[][] {movedOn(t), movedOn(b)};
            default:
                long[] below = product(movedOn(b), u.ratio[1]);
                long[] grown = product(product(movedOn(t), u.ratio[0]), b);
                return new long[][] {sum(grown, product(t, below), -1), product(b, below)};
        }
    }

    private static int call(CertificateSums x, int kind, int f, int g) {
        switch (kind) {
            case 0: return x.add(f, g);
            case 1: return x.times(f, g);
            case 2: return x.over(f, g);
            case 3: return x.moved(f);
            default: return x.step(f);
        }
    }

    private static void make(Used u, int kind, int f, int g) {
        String what = u.run + "kind " + kind + " of " + f + " and " + g;
        long[][] raw = raw(u, kind, f, g);
        if (degree(raw[1]) < 0) {
            due(what, () -> call(u.use(), kind, f, g), ZERO);
            return;
        }
        int common = commonDegree(raw[0], raw[1]);
        boolean tooGreat = Math.max(degree(raw[0]), degree(raw[1])) - common > 20;
        if (tooGreat || u.count() == 50) {
            tooGreatSeen += tooGreat ? 1 : 0;
            fullSeen += u.count() == 50 ? 1 : 0;
            due(what, () -> call(u.use(), kind, f, g), FULL);
            return;
        }
        int made = u.count();
        due(what, () -> call(u.use(), kind, f, g), made);
        u.keep(made);
        due(what + " is proper", () -> proper(u.functions.get(made)), true);
        long[] left = product(u.top(made), raw[1]);
        long[] right = product(u.bottom(made), raw[0]);
        due(what + " is what it should be", () -> degree(sum(left, right, -1)), -1);
        if (kind == 4) {
            due(what + " proves", () -> u.use().proves(made, f), true);
        }
    }

    private static void makeNumber(Used u, long v) {
        if (u.count() == 50) {
            due(u.run + "number", () -> u.use().number(v), FULL);
        } else {
            due(u.run + "number", () -> u.use().number(v), u.count());
            u.functions.add(new long[][] {mod(v) == 0 ? new long[] {} : new long[] {mod(v)}, {1}});
        }
    }

    private static void makeLetter(Used u) {
        due(u.run + "letter", () -> u.use().letter(), u.count());
        u.functions.add(new long[][] {{0, 1}, {1}});
    }

    private static void turnRatio(Used u) {
        int top = below(2);
        int power = below(4);
        long v = below(3) == 0 ? 0 : below(7) - 3;
        due(u.run + "ratio", () -> u.use().ratio(top == 0, power, v), u.ratio[top][power] != mod(v));
        u.ratio[top][power] = mod(v);
    }

    private static void look(Used u, int f, int g) {
        long place = below(2) == 0 ? below(9) - 4 : below(P) - 5L * P;
        long below = horner(u.bottom(f), place);
        long value = below == 0 ? -1 : horner(u.top(f), place) * inverse(below) % P;
        due(u.run + "value(" + f + ", " + place + ")", () -> u.use().value(f, place), value);
        due(u.run + "count", () -> u.use().count(), u.count());
        due(u.run + "same(" + f + ", " + g + ")", () -> u.use().same(f, g),
                Arrays.equals(u.top(f), u.top(g)) && Arrays.equals(u.bottom(f), u.bottom(g)));
        long[][] step = raw(u, 4, g, g);
        if (degree(step[1]) >= 0) {
            long[] left = product(u.top(f), step[1]);
            long[] right = product(u.bottom(f), step[0]);
            due(u.run + "proves(" + f + ", " + g + ")", () -> u.use().proves(f, g),
                    degree(sum(left, right, -1)) < 0);
        }
    }

    /** One of the last made as often as any, since these have the greatest degrees. */
    private static int recent(Used u) {
        return below(2) == 0 ? below(u.count()) : Math.max(u.count() - 1 - below(3), 0);
    }

    /** In every second run few functions are made, and read, so that more is asked of them. */
    private static void oneRun(int number) {
        Used u = new Used("run " + number + ": ");
        makeLetter(u);
        makeNumber(u, 1);
        // A turn takes at most 48 calls: one that makes a function of 21 numbers above and below.
        while (u.left() > 50) {
            int f = recent(u);
            int g = below(u.count());
            int kind = below(number % 2 == 0 ? 9 : 20);
            if (kind < 5) {
                make(u, kind, f, g);
            } else if (kind == 5) {
                makeNumber(u, below(11) - 5);
            } else if (kind == 6 && number % 3 != 0) {
                turnRatio(u);
            } else if (kind == 7) {
                look(u, f, g);
            } else {
                certificates(u, f, g, below(11) - 1);
            }
        }
    }

    /** Numbers alone, so that 50 are there while calls are left. */
    private static void fullRun(int number) {
        Used u = new Used("full " + number + ": ");
        makeLetter(u);
        while (u.left() > 250) {
            int f = below(u.count());
            if (below(3) == 0) {
                make(u, below(5), f, below(u.count()));
            } else {
                makeNumber(u, below(P));
            }
        }
        while (u.left() > 100) {
            make(u, below(5), below(u.count()), below(u.count()));
            certificates(u, below(u.count()), below(u.count()), below(11) - 1);
        }
    }

    /** Products upon products, so that many a function is about as great as one may be. */
    private static void greatRun(int number) {
        Used u = new Used("great " + number + ": ");
        makeLetter(u);
        makeNumber(u, 1 + below(4));
        make(u, 0, 0, 1);
        make(u, number % 3 == 0 ? 1 : 2, 0, 2);
        make(u, 1, 3, 3);
        for (int k = number % 4; k > 0; k--) {
            turnRatio(u);
        }
        make(u, 4, 4, 4);
        while (u.left() > 50) {
            int f = Math.max(u.count() - 1 - below(4), 0);
            make(u, below(5), f, below(3) == 0 ? below(u.count()) : u.count() - 1);
            look(u, f, u.count() - 1);
        }
    }

    /** With a certificate made first, so that there is one to be found. */
    private static void madeToBeFound(int number) {
        Used u = new Used("made " + number + ": ");
        for (int k = 0; k < number % 5; k++) {
            turnRatio(u);
        }
        makeLetter(u);
        makeNumber(u, 1);
        int q = 1;
        for (int k = below(4); k > 0; k--) {
            makeNumber(u, below(5));
            make(u, 0, 0, u.count() - 1);
            make(u, 1, q, u.count() - 1);
            q = u.count() - 1;
        }
        makeNumber(u, below(P));
        for (int k = below(number % 7 == 0 ? 9 : 4); k > 0; k--) {
            make(u, 1, u.count() - 1, 0);
            makeNumber(u, below(P));
            make(u, 0, u.count() - 1, u.count() - 2);
        }
        make(u, 2, u.count() - 1, q);
        int through = u.count() - 1;
        make(u, 4, through, through);
        if (u.count() - 1 > through) {
            certificates(u, through + 1, q, below(11) - 1);
            certificates(u, through + 1, q, below(9));
            certificates(u, through + 1, q, 8);
        }
    }

    public static void main(String[] args) {
        for (int k = 0; k < 300; k++) {
            oneRun(k);
            madeToBeFound(k);
            greatRun(k);
        }
        for (int k = 0; k < 30; k++) {
            fullRun(k);
        }
        due("enough certificates are found", () -> found > 400, true);
        due("enough free powers are seen", () -> freeSeen > 400, true);
        due("enough is too great", () -> tooGreatSeen > 400, true);
        due("enough are full", () -> fullSeen > 200, true);
        finish();
    }
}
