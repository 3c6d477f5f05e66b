/**
 * Sums by certificates over the field of 32003 numbers: rational functions times one term whose
 * ratio is rational, their steps, and the polynomials above a denominator that make one function
 * the step of another.
 */
public final class CertificateSums {
    private static final int PRIME = 32003;
    private static final int MOST_FUNCTIONS = 50;
    private static final int HIGHEST_OF_RATIO = 3;
    private static final int HIGHEST_OF_CERTIFICATE = 8;
    private static final int HIGHEST_OF_FUNCTION = 20;

    /**
     * The longest product is r's TOP times B times q's TOP, once as it is and once MOVED: a degree of
     * 20 + 3 + 20 + 20, and one place more for the power 0.
     */
    private static final int LONGEST =
            HIGHEST_OF_FUNCTION + HIGHEST_OF_RATIO + HIGHEST_OF_FUNCTION + HIGHEST_OF_FUNCTION + 1;

    private final Polynomial ratioTop;
    private final Polynomial ratioBottom;
    private final Fraction[] functions;
    private int made;

    // Work rows: made once, since every array that a run makes is counted.
    private final Polynomial top;
    private final Polynomial bottom;
    private final Polynomial left;
    private final Polynomial right;
    private final Polynomial quotient;
    private final Equations equations;

    public CertificateSums() {
        ratioTop = new Polynomial(HIGHEST_OF_RATIO + 1);
        ratioTop.put(0, 1);
        ratioBottom = new Polynomial(HIGHEST_OF_RATIO + 1);
        ratioBottom.put(0, 1);
        functions = new Fraction[MOST_FUNCTIONS];
        made = 0;
        top = new Polynomial(LONGEST);
        bottom = new Polynomial(LONGEST);
        left = new Polynomial(LONGEST);
        right = new Polynomial(LONGEST);
        quotient = new Polynomial(LONGEST);
        equations = new Equations();
    }

    public boolean ratio(boolean top, int power, long v) throws IllegalArgumentException {
        if (power < 0 || power > HIGHEST_OF_RATIO) {
            throw new IllegalArgumentException("the ratio has the powers 0 to 3");
        }
        Polynomial part = top ? ratioTop : ratioBottom;
        int next = Numbers.reduced(v);
        boolean changes = part.coefficient(power) != next;
        part.put(power, next);
        return changes;
    }

    public int number(long v) throws IllegalStateException {
        top.clear();
        top.put(0, Numbers.reduced(v));
        bottom.clear();
        bottom.put(0, 1);
        return keepResult();
    }

    public int letter() throws IllegalStateException {
        top.clear();
        top.put(1, 1);
        bottom.clear();
        bottom.put(0, 1);
        return keepResult();
    }

    public int add(int f, int g) throws IndexOutOfBoundsException, IllegalStateException {
        Fraction first = known(f);
        Fraction second = known(g);
        top.setProduct(first.top, second.bottom);
        left.setProduct(second.top, first.bottom);
        top.gather(left, 1, 0);
        bottom.setProduct(first.bottom, second.bottom);
        return keepResult();
    }

    public int times(int f, int g) throws IndexOutOfBoundsException, IllegalStateException {
        Fraction first = known(f);
        Fraction second = known(g);
        top.setProduct(first.top, second.top);
        bottom.setProduct(first.bottom, second.bottom);
        return keepResult();
    }

    public int over(int f, int g)
            throws IndexOutOfBoundsException, ArithmeticException, IllegalStateException {
        Fraction first = known(f);
        Fraction second = known(g);
        if (second.top.isZero()) {
            throw new ArithmeticException("the divisor is 0");
        }
        top.setProduct(first.top, second.bottom);
        bottom.setProduct(first.bottom, second.top);
        return keepResult();
    }

    public int moved(int f) throws IndexOutOfBoundsException, IllegalStateException {
        Fraction function = known(f);
        top.copy(function.top);
        top.moveByOne();
        bottom.copy(function.bottom);
        bottom.moveByOne();
        return keepResult();
    }

    public int step(int f)
            throws IndexOutOfBoundsException, ArithmeticException, IllegalStateException {
        Fraction function = known(f);
        refuseZeroRatioBottom();
        setToStep(function);
        return keepResult();
    }

    public boolean proves(int f, int g) throws IndexOutOfBoundsException, ArithmeticException {
        Fraction claim = known(f);
        Fraction function = known(g);
        refuseZeroRatioBottom();
        setToStep(function);
        left.setProduct(claim.top, bottom);
        right.setProduct(claim.bottom, top);
        return left.matches(right);
    }

    public int find(int r, int q, int d)
            throws IndexOutOfBoundsException, ArithmeticException, IllegalArgumentException,
                    IllegalStateException {
        Fraction target = known(r);
        Fraction base = known(q);
        refuseZeroDivisors(base);
        refuseWrongBound(d);
        refuseWhenFull();
        // Taking away a CERTIFICATE of 0 that ends at a FREE power never raises a degree, so the PLAIN
        // one with 8 has the least degree of all and is the PLAIN one with every d that allows it.
        if (!findPlain(target, base) || top.highest > d) {
            return -1;
        }
        bottom.copy(base.top);
        return keepResult();
    }

    public int least(int r, int q) throws IndexOutOfBoundsException, ArithmeticException {
        Fraction target = known(r);
        Fraction base = known(q);
        refuseZeroDivisors(base);
        if (!findPlain(target, base)) {
            return -1;
        }
        return Math.max(top.highest, 0);
    }

    public int free(int q, int d)
            throws IndexOutOfBoundsException, ArithmeticException, IllegalArgumentException {
        Fraction base = known(q);
        refuseZeroDivisors(base);
        refuseWrongBound(d);
        // The FREE powers are the same for every r, so any function serves as one here.
        equations.set(base, base.top, ratioTop, ratioBottom);
        equations.eliminate();
        return equations.freeUpTo(d);
    }

    public int degree(int f, boolean top) throws IndexOutOfBoundsException {
        return known(f).part(top).highest;
    }

    public int at(int f, boolean top, int power) throws IndexOutOfBoundsException {
        return known(f).part(top).coefficient(power);
    }

    public int value(int f, long n) throws IndexOutOfBoundsException {
        Fraction function = known(f);
        int place = Numbers.reduced(n);
        int below = function.bottom.evaluate(place);
        if (below == 0) {
            return -1;
        }
        return Numbers.product(function.top.evaluate(place), Numbers.inverse(below));
    }

    public boolean same(int f, int g) throws IndexOutOfBoundsException {
        Fraction first = known(f);
        Fraction second = known(g);
        return first.top.matches(second.top) && first.bottom.matches(second.bottom);
    }

    public int count() {
        return made;
    }

    private Fraction known(int f) {
        Fraction found = f >= 0 && f < functions.length ? functions[f] : null;
        if (found == null) {
            throw new IndexOutOfBoundsException("there is no such function");
        }
        return found;
    }

    private void refuseWhenFull() {
        if (made < 0 || made >= functions.length) {
            throw new IllegalStateException("there is no room for one more function");
        }
    }

    private void refuseZeroRatioBottom() {
        if (ratioBottom.isZero()) {
            throw new ArithmeticException("the bottom of the ratio is 0");
        }
    }

    private void refuseZeroDivisors(Fraction base) {
        refuseZeroRatioBottom();
        if (base.top.isZero()) {
            throw new ArithmeticException("the denominator is 0");
        }
    }

    private static void refuseWrongBound(int d) {
        if (d < 0 || d > HIGHEST_OF_CERTIFICATE) {
            throw new IllegalArgumentException("a certificate's degree is bounded by 0 to 8");
        }
    }

    /** Leaves the STEP in top and bottom, not yet in lowest terms. */
    private void setToStep(Fraction function) {
        left.copy(function.top);
        left.moveByOne();
        right.setProduct(left, ratioTop);
        top.setProduct(right, function.bottom);
        left.copy(function.bottom);
        left.moveByOne();
        right.setProduct(left, ratioBottom);
        bottom.setProduct(right, function.bottom);
        left.setProduct(right, function.top);
        top.gather(left, PRIME - 1, 0);
    }

    /** Leaves the PLAIN CERTIFICATE with 8 in top, if there is one. */
    private boolean findPlain(Fraction target, Fraction base) {
        equations.set(target, base.top, ratioTop, ratioBottom);
        equations.eliminate();
        if (!equations.areSolvable()) {
            return false;
        }
        equations.writeSolution(top);
        return true;
    }

    /** Makes a function of top through bottom. */
    private int keepResult() {
        refuseWhenFull();
        toLowestTerms();
        if (top.highest > HIGHEST_OF_FUNCTION || bottom.highest > HIGHEST_OF_FUNCTION) {
            throw new IllegalStateException("the function is too great");
        }
        int handle = made;
        functions[handle] = new Fraction(top, bottom);
        made++;
        return handle;
    }

    private void toLowestTerms() {
        left.copy(top);
        right.copy(bottom);
        Polynomial divisor = greatestDivisor(left, right, quotient);
        top.divide(divisor, quotient);
        top.copy(quotient);
        bottom.divide(divisor, quotient);
        bottom.copy(quotient);
        int factor = Numbers.inverse(bottom.leading());
        top.scale(factor);
        bottom.scale(factor);
    }

    /** Uses up both polynomials, and answers the one of them that has become the divisor. */
    private static Polynomial greatestDivisor(Polynomial f, Polynomial g, Polynomial spare) {
        Polynomial divided = f;
        Polynomial divisor = g;
        for (int round = 0; round <= LONGEST && !divisor.isZero(); round++) {
            divided.divide(divisor, spare);
            Polynomial rest = divided;
            divided = divisor;
            divisor = rest;
        }
        return divided;
    }

    /** The field: numbers 0 .. 32002 modulo a prime. */
    private static final class Numbers {
        static int reduced(long v) {
            int rest = (int) (v % PRIME);
            return rest < 0 ? rest + PRIME : rest;
        }

        static int product(int a, int b) {
            return reduced((long) a * b);
        }

        /** By Fermat's little theorem; 0 for 0, which has none. */
        static int inverse(int a) {
            int result = 1;
            int square = a;
            for (int rest = PRIME - 2; rest > 0; rest >>= 1) {
                if ((rest & 1) == 1) {
                    result = reduced((long) result * square);
                }
                square = reduced((long) square * square);
            }
            return result;
        }
    }

    /** A polynomial in a row of its own; all numbers above its highest power are 0. */
    private static final class Polynomial {
        private final int[] row;
        int highest;

        Polynomial(int room) {
            row = new int[Math.max(room, 0)];
            highest = -1;
        }

        /** A copy that takes no more room than it needs. */
        Polynomial(Polynomial other) {
            row = new int[Math.max(other.highest + 1, 0)];
            highest = -1;
            copy(other);
        }

        boolean isZero() {
            return highest < 0;
        }

        int coefficient(int power) {
            return power >= 0 && power < row.length ? row[power] : 0;
        }

        int leading() {
            return coefficient(highest);
        }

        /** Every change goes through here, so that the highest power is always right. */
        void put(int power, int v) {
            if (power < 0 || power >= row.length) {
                return;
            }
            row[power] = v;
            if (power >= highest) {
                int k = power;
                while (k >= 0 && row[k] == 0) {
                    k--;
                }
                highest = k;
            }
        }

        void clear() {
            for (int k = highest; k >= 0; k--) {
                put(k, 0);
            }
        }

        void copy(Polynomial other) {
            clear();
            for (int k = 0; k <= other.highest; k++) {
                put(k, other.coefficient(k));
            }
        }

        /** Neither factor may be this polynomial itself. */
        void setProduct(Polynomial f, Polynomial g) {
            clear();
            for (int k = 0; k <= f.highest + g.highest; k++) {
                long sum = 0;
                int last = Math.min(k, f.highest);
                for (int i = Math.max(k - g.highest, 0); i <= last; i++) {
                    sum += (long) f.coefficient(i) * g.coefficient(k - i);
                }
                put(k, Numbers.reduced(sum));
            }
        }

        /** Adds a number times a power of n times another polynomial. */
        void gather(Polynomial other, int factor, int power) {
            for (int k = 0; k <= other.highest; k++) {
                long sum = coefficient(k + power) + (long) factor * other.coefficient(k);
                put(k + power, Numbers.reduced(sum));
            }
        }

        void scale(int factor) {
            for (int k = highest; k >= 0; k--) {
                put(k, Numbers.product(coefficient(k), factor));
            }
        }

        /** Multiplies by n + shift; downwards, so that each number is read before it is replaced. */
        void multiplyByLinear(int shift) {
            for (int k = highest + 1; k >= 0; k--) {
                long sum = coefficient(k - 1) + (long) shift * coefficient(k);
                put(k, Numbers.reduced(sum));
            }
        }

        /** Puts n + 1 in place of n, by Horner's scheme carried on to every power. */
        void moveByOne() {
            for (int done = 0; done < highest; done++) {
                for (int k = highest - 1; k >= done; k--) {
                    put(k, Numbers.reduced((long) coefficient(k) + coefficient(k + 1)));
                }
            }
        }

        /** Leaves the rest here and writes the quotient; nothing happens if the divisor is 0. */
        void divide(Polynomial divisor, Polynomial result) {
            result.clear();
            if (divisor.isZero()) {
                return;
            }
            int inverse = Numbers.inverse(divisor.leading());
            for (int k = highest - divisor.highest; k >= 0; k--) {
                int share = Numbers.product(coefficient(k + divisor.highest), inverse);
                result.put(k, share);
                gather(divisor, PRIME - share, k);
            }
        }

        int evaluate(int place) {
            int sum = 0;
            for (int k = highest; k >= 0; k--) {
                sum = Numbers.reduced((long) sum * place + coefficient(k));
            }
            return sum;
        }

        boolean matches(Polynomial other) {
            if (highest != other.highest) {
                return false;
            }
            for (int k = 0; k <= highest; k++) {
                if (coefficient(k) != other.coefficient(k)) {
                    return false;
                }
            }
            return true;
        }
    }

    /** A function that has a handle: in lowest terms, and never changed. */
    private static final class Fraction {
        final Polynomial top;
        final Polynomial bottom;

        Fraction(Polynomial top, Polynomial bottom) {
            this.top = new Polynomial(top);
            this.bottom = new Polynomial(bottom);
        }

        Polynomial part(boolean ofTop) {
            return ofTop ? top : bottom;
        }
    }

    /**
     * The linear equations for the numbers of a CERTIFICATE y of r over Q, with r = t / b: freed of all
     * denominators, b (A Q MOVED y - B MOVED Q y) = t B Q MOVED Q, one equation for each power of n.
     * A column is what one power of y brings to the left side, as a polynomial.
     */
    private static final class Equations {
        private final Polynomial[] columns;
        private final Polynomial target;
        private final Polynomial growing;
        private final Polynomial staying;
        private final Polynomial movedBase;
        private final Polynomial work;

        /** The equation that tells the number at a power of y, or -1 if the power is FREE. */
        private final int[] equationOf;
        private final boolean[] taken;

        Equations() {
            columns = new Polynomial[HIGHEST_OF_CERTIFICATE + 1];
            for (int k = 0; k < columns.length; k++) {
                columns[k] = new Polynomial(LONGEST);
            }
            target = new Polynomial(LONGEST);
            growing = new Polynomial(LONGEST);
            staying = new Polynomial(LONGEST);
            movedBase = new Polynomial(LONGEST);
            work = new Polynomial(LONGEST);
            equationOf = new int[HIGHEST_OF_CERTIFICATE + 1];
            taken = new boolean[LONGEST];
        }

        void set(Fraction r, Polynomial base, Polynomial ratioTop, Polynomial ratioBottom) {
            movedBase.copy(base);
            movedBase.moveByOne();
            work.setProduct(r.top, ratioBottom);
            growing.setProduct(work, base);
            target.setProduct(growing, movedBase);
            work.setProduct(r.bottom, ratioTop);
            growing.setProduct(work, base);
            work.setProduct(r.bottom, ratioBottom);
            staying.setProduct(work, movedBase);
            for (int k = 0; k < columns.length; k++) {
                columns[k].copy(growing);
                columns[k].gather(staying, PRIME - 1, 0);
                growing.multiplyByLinear(1);
                staying.multiplyByLinear(0);
            }
        }

        /**
         * From the lowest power of y up: a column that the ones before it make up is that of a power at
         * which some CERTIFICATE of 0 ends, so just the FREE powers are left without an equation.
         */
        void eliminate() {
            for (int i = 0; i < taken.length; i++) {
                taken[i] = false;
            }
            for (int k = 0; k < columns.length; k++) {
                int equation = firstUntaken(columns[k]);
                equationOf[k] = equation;
                if (equation >= 0) {
                    taken[equation] = true;
                    solveFor(k, equation);
                }
            }
        }

        private int firstUntaken(Polynomial column) {
            for (int i = 0; i < taken.length; i++) {
                if (!taken[i] && column.coefficient(i) != 0) {
                    return i;
                }
            }
            return -1;
        }

        private void solveFor(int k, int equation) {
            int inverse = Numbers.inverse(columns[k].coefficient(equation));
            for (int other = k + 1; other < columns.length; other++) {
                putInto(columns[other], columns[k], equation, inverse);
            }
            putInto(target, columns[k], equation, inverse);
        }

        /** The solved column itself stays as it is, for it is never looked at again. */
        private static void putInto(Polynomial column, Polynomial solved, int equation, int inverse) {
            int share = Numbers.product(column.coefficient(equation), inverse);
            column.gather(solved, PRIME - share, 0);
            column.put(equation, share);
        }

        boolean areSolvable() {
            return firstUntaken(target) < 0;
        }

        /** The solution with 0 at all FREE powers. */
        void writeSolution(Polynomial result) {
            result.clear();
            for (int k = 0; k < equationOf.length; k++) {
                result.put(k, target.coefficient(equationOf[k]));
            }
        }

        int freeUpTo(int d) {
            int sum = 0;
            for (int k = 0; k <= d && k < equationOf.length; k++) {
                if (equationOf[k] < 0) {
                    sum++;
                }
            }
            return sum;
        }
    }
}
