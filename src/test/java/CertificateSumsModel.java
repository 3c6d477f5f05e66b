import java.util.ArrayList;
import java.util.List;

/**
 * Long runs of calls on fresh objects, each answer held against a model that works in another way:
 * it knows a function by its values at places of the field, and counts certificates by ranks.
 */
public final class CertificateSumsModel {
    private static final int P = 32003;
    private static final int PLACES = 100;

    private static int wrong = 0;
    private static long seed = 20261115L;
    private static int found = 0;
    private static int freeSeen = 0;

    private static void due(String what, Object got, Object want) {
        if (!got.equals(want)) {
            wrong++;
            System.out.println(what + " answered " + got + ", due is " + want);
        }
    }

    private static int below(int bound) {
        seed = seed * 6364136223846793005L + 1442695040888963407L;
        return (int) ((seed >>> 33) % bound);
    }

    private static long mod(long v) {
        return Math.floorMod(v, (long) P);
    }

    private static long power(long base, int exponent) {
        long result = 1;
        for (int k = 0; k < exponent; k++) {
            result = result * base % P;
        }
        return result;
    }

    private static long inverse(long v) {
        long a = mod(v);
        long b = P;
        long s = 1;
        long t = 0;
        while (b != 0) {
            long whole = a / b;
            long rest = a - whole * b;
            a = b;
            b = rest;
            long next = s - whole * t;
            s = t;
            t = next;
        }
        return mod(s);
    }

    private static long horner(long[] numbers, long place) {
        long sum = 0;
        for (int k = numbers.length - 1; k >= 0; k--) {
            sum = mod(sum * mod(place) + numbers[k]);
        }
        return sum;
    }

    private static long[] read(CertificateSums x, int f, boolean top) {
        long[] numbers = new long[x.degree(f, top) + 1];
        for (int k = 0; k < numbers.length; k++) {
            numbers[k] = x.at(f, top, k);
        }
        return numbers;
    }

    /** Rank by rows, with exchange of rows, over the columns from 0 up to one. */
    private static int rank(List<long[]> rows, int columns, boolean withTarget) {
        List<long[]> rest = new ArrayList<>();
        for (long[] row : rows) {
            long[] copy = new long[columns + (withTarget ? 1 : 0)];
            System.arraycopy(row, 0, copy, 0, columns);
            if (withTarget) {
                copy[columns] = row[row.length - 1];
            }
            rest.add(copy);
        }
        int rank = 0;
        int width = columns + (withTarget ? 1 : 0);
        for (int c = 0; c < width; c++) {
            int pivot = -1;
            for (int i = rank; i < rest.size() && pivot < 0; i++) {
                pivot = rest.get(i)[c] != 0 ? i : -1;
            }
            if (pivot < 0) {
                continue;
            }
            long[] row = rest.get(pivot);
            rest.set(pivot, rest.get(rank));
            rest.set(rank, row);
            long factor = inverse(row[c]);
            for (int i = rank + 1; i < rest.size(); i++) {
                long share = rest.get(i)[c] * factor % P;
                for (int k = c; k < width; k++) {
                    rest.get(i)[k] = mod(rest.get(i)[k] - share * row[k]);
                }
            }
            rank++;
        }
        return rank;
    }

    /** One equation for each place: what the powers of y bring there, and what is to come out. */
    private static List<long[]> equations(long[] rTop, long[] rBottom, long[] q, long[][] ratio) {
        List<long[]> rows = new ArrayList<>();
        for (int place = 5; place < 5 + PLACES; place++) {
            long b = horner(rBottom, place);
            long here = horner(q, place);
            long next = horner(q, place + 1);
            long up = b * here % P * horner(ratio[0], place) % P;
            long stay = b * next % P * horner(ratio[1], place) % P;
            long[] row = new long[10];
            for (int k = 0; k <= 8; k++) {
                row[k] = mod(up * power(place + 1, k) - stay * power(place, k));
            }
            row[9] = horner(rTop, place) * horner(ratio[1], place) % P * here % P * next % P;
            rows.add(row);
        }
        return rows;
    }

    private static boolean isFree(List<long[]> rows, int power) {
        return rank(rows, power + 1, false) == rank(rows, power, false);
    }

    private static boolean solvable(List<long[]> rows, int d) {
        return rank(rows, d + 1, false) == rank(rows, d + 1, true);
    }

    private static boolean zero(long[] numbers) {
        for (long v : numbers) {
            if (v != 0) {
                return false;
            }
        }
        return true;
    }

    private static void certificates(String run, CertificateSums x, int r, int q, long[][] ratio) {
        long[] base = read(x, q, true);
        if (zero(base) || zero(ratio[1])) {
            return;
        }
        List<long[]> rows = equations(read(x, r, true), read(x, r, false), base, ratio);
        int least = -1;
        for (int d = 8; d >= 0; d--) {
            least = solvable(rows, d) ? d : least;
        }
        due(run + "least(" + r + ", " + q + ")", x.least(r, q), least);
        int d = below(9);
        int free = 0;
        for (int k = 0; k <= d; k++) {
            free += isFree(rows, k) ? 1 : 0;
        }
        freeSeen += free;
        due(run + "free(" + q + ", " + d + ")", x.free(q, d), free);
        if (x.count() >= 50) {
            return;
        }
        int had = x.count();
        int answer = x.find(r, q, d);
        String what = run + "find(" + r + ", " + q + ", " + d + ")";
        due(what, answer, least >= 0 && least <= d ? had : -1);
        if (answer >= 0) {
            found++;
            checkPlain(what, x, answer, r, base, rows, ratio);
        }
    }

    /** Gets y back from its values, as y is what was found times q's TOP. */
    private static void checkPlain(String what, CertificateSums x, int answer, int r, long[] base,
            List<long[]> rows, long[][] ratio) {
        due(what + " proves", x.proves(r, answer), true);
        long[] top = read(x, answer, true);
        long[] bottom = read(x, answer, false);
        List<long[]> system = new ArrayList<>();
        for (int place = 7; place < 7 + PLACES; place++) {
            long[] row = new long[10];
            for (int k = 0; k <= 8; k++) {
                row[k] = power(place, k) * horner(bottom, place) % P;
            }
            row[9] = horner(top, place) * horner(base, place) % P;
            system.add(row);
        }
        for (int k = 0; k <= 8; k++) {
            if (isFree(rows, k)) {
                // Without the power k there is still such a y.
                for (long[] row : system) {
                    row[k] = 0;
                }
            }
        }
        due(what + " is plain", solvable(system, 8), true);
    }

    private static boolean proper(CertificateSums x, int f) {
        long[] top = read(x, f, true);
        long[] bottom = read(x, f, false);
        if (bottom.length == 0 || bottom[bottom.length - 1] != 1 || bottom.length > 21 || top.length > 21
                || top.length > 0 && top[top.length - 1] == 0) {
            return false;
        }
        return coprime(top, bottom);
    }

    /** By the rank of Sylvester's matrix. */
    private static boolean coprime(long[] top, long[] bottom) {
        int m = top.length - 1;
        int n = bottom.length - 1;
        if (m < 0) {
            return n == 0;
        }
        List<long[]> rows = new ArrayList<>();
        for (int k = 0; k < n; k++) {
            long[] row = new long[m + n];
            System.arraycopy(top, 0, row, k, m + 1);
            rows.add(row);
        }
        for (int k = 0; k < m; k++) {
            long[] row = new long[m + n];
            System.arraycopy(bottom, 0, row, k, n + 1);
            rows.add(row);
        }
        return rank(rows, m + n, false) == m + n;
    }

    /** Whether f has the value top through bottom at all places where that tells one. */
    private static void holdsAt(String what, CertificateSums x, int f, long place, long top, long bottom) {
        if (mod(bottom) != 0) {
            due(what + " at " + place, (long) x.value(f, place), mod(top) * inverse(bottom) % P);
        }
    }

    private static int attempt(CertificateSums x, int kind, int f, int g) {
        try {
            switch (kind) {
                case 0: return x.add(f, g);
                case 1: return x.times(f, g);
                case 2: return x.over(f, g);
                case 3: return x.moved(f);
                default: return x.step(f);
            }
        } catch (IllegalStateException | ArithmeticException e) {
            return -1;
        }
    }

    private static void check(String what, CertificateSums x, int made, int kind, int f, int g, long[][] ratio) {
        due(what + " is proper", proper(x, made), true);
        long[][] parts = {read(x, f, true), read(x, f, false), read(x, g, true), read(x, g, false)};
        for (int place = -4; place < 60; place++) {
            long t = horner(parts[0], place);
            long b = horner(parts[1], place);
            long u = horner(parts[2], place);
            long c = horner(parts[3], place);
            long t1 = horner(parts[0], place + 1);
            long b1 = horner(parts[1], place + 1);
            long a = horner(ratio[0], place);
            long z = horner(ratio[1], place);
            switch (kind) {
                case 0: holdsAt(what, x, made, place, mod(t * c + u * b), b * c); break;
                case 1: holdsAt(what, x, made, place, t * u, b * c); break;
                case 2: holdsAt(what, x, made, place, t * c, b * u); break;
                case 3: holdsAt(what, x, made, place, t1, b1); break;
                default:
                    holdsAt(what, x, made, place, mod(t1 * a % P * b - t * b1 % P * z), b * b1 % P * z);
            }
        }
        if (kind == 4) {
            due(what + " proves", x.proves(made, f), true);
        }
    }

    private static void turnRatio(String run, CertificateSums x, long[][] ratio) {
        int top = below(2);
        int power = below(4);
        long v = below(3) == 0 ? 0 : below(7) - 3;
        due(run + "ratio", x.ratio(top == 0, power, v), ratio[top][power] != mod(v));
        ratio[top][power] = mod(v);
    }

    private static void oneRun(int number) {
        CertificateSums x = new CertificateSums();
        long[][] ratio = {{1, 0, 0, 0}, {1, 0, 0, 0}};
        String run = "run " + number + ": ";
        x.letter();
        x.number(1);
        for (int turn = 0; turn < 60; turn++) {
            int f = below(x.count());
            int g = below(x.count());
            int kind = below(9);
            if (kind < 5) {
                int had = x.count();
                int made = attempt(x, kind, f, g);
                due(run + "count", x.count(), made < 0 ? had : had + 1);
                if (made >= 0) {
                    check(run + "kind " + kind + " of " + f + " and " + g, x, made, kind, f, g, ratio);
                }
            } else if (kind == 5 && x.count() < 50) {
                x.number(below(11) - 5);
            } else if (kind == 6 && number % 3 != 0) {
                turnRatio(run, x, ratio);
            } else {
                certificates(run, x, f, g, ratio);
            }
        }
    }

    /** With a certificate made first, so that there is one to be found. */
    private static void madeToBeFound(int number) {
        CertificateSums x = new CertificateSums();
        long[][] ratio = {{1, 0, 0, 0}, {1, 0, 0, 0}};
        String run = "made " + number + ": ";
        for (int k = 0; k < number % 5; k++) {
            turnRatio(run, x, ratio);
        }
        int n = x.letter();
        int q = x.number(1);
        for (int k = below(4); k > 0; k--) {
            q = x.times(q, x.add(n, x.number(below(5))));
        }
        int y = x.number(below(P));
        for (int k = below(4); k > 0; k--) {
            y = x.add(x.times(y, n), x.number(below(P)));
        }
        int through = x.over(y, q);
        int r = attempt(x, 4, through, through);
        if (r >= 0) {
            due(run + "proves", x.proves(r, through), true);
            certificates(run, x, r, q, ratio);
            certificates(run, x, r, q, ratio);
        }
    }

    public static void main(String[] args) {
        for (int k = 0; k < 150; k++) {
            oneRun(k);
        }
        for (int k = 0; k < 300; k++) {
            madeToBeFound(k);
        }
        due("enough certificates are found", found > 200, true);
        due("enough free powers are seen", freeSeen > 50, true);
        System.out.println(wrong == 0 ? "all answers are as due" : wrong + " answers are not as due");
        if (wrong != 0) {
            System.exit(1);
        }
    }
}
