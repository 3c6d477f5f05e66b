/**
 * What the document's terms mean, told by values: the term h of the RATIO, what r times h grows by, MOVED
 * and the four kinds of reckoning at places, CERTIFICATES as sums of many members, FREE powers and the
 * PLAIN one; and that no call touches what it does not make, nor another object.
 */
public final class CertificateSumsTerms extends Checks {
    private static final long P = 32003;
    private static final int LAST_PLACE = 40;

    /** A and then B, for h = 1, n!, 2^n, (2n)!/(4^n n!^2) and 1/n^2 but for a factor; the last has no name. */
    private static final long[][][] RATIOS = {
        {{1}, {1}}, {{1, 1}, {1}}, {{2}, {1}}, {{1, 2}, {2, 2}}, {{0, 0, 1}, {1, 2, 1}},
        {{3, 0, -1, 5}, {-7, 2, 0, 4}}
    };

    private interface On {
        Object answer(CertificateSums x);
    }

    public static void main(String[] args) {
        whatItGrowsBy();
        sumOfFactorials();
        sumOfPowersOfTwo();
        sumOfMiddleBinomials();
        sumOfFractions();
        movedByValues();
        reckoningByValues();
        stepOfWhatIsFound();
        freeByDefinition();
        justOnePlain();
        whatIsMadeComesLast();
        whatIsAskedChangesNothing();
        objectsApart();
        sameCallsSameAnswers();
        finish();
    }

    private static long mod(long v) {
        return Math.floorMod(v, P);
    }

    private static long inverse(long v) {
        for (long k = 1; k < P; k++) {
            if (mod(v * k) == 1) {
                return k;
            }
        }
        throw new AssertionError("0 has no inverse");
    }

    private static long horner(long[] numbers, long place) {
        long sum = 0;
        for (int k = numbers.length - 1; k >= 0; k--) {
            sum = mod(sum * place + numbers[k]);
        }
        return sum;
    }

    /** "with h at n + 1 A through B of n times h at n", from 1 at the place 1. */
    private static long[] term(long[][] ratio) {
        long[] h = new long[LAST_PLACE + 2];
        h[1] = 1;
        for (int n = 1; n <= LAST_PLACE; n++) {
            h[n + 1] = mod(horner(ratio[0], n) * inverse(horner(ratio[1], n)) % P * h[n]);
        }
        return h;
    }

    /** Makes 17 functions, which have values at all places from 1 on but for the last, 1 through n - 7. */
    private static CertificateSums withFunctions(long[][] ratio) {
        CertificateSums x = withRatio(ratio[0], ratio[1]);
        x.number(0);
        x.number(1);
        x.letter();
        x.moved(2);
        x.times(2, 3);
        x.over(1, 4);
        x.number(-1);
        x.add(2, 6);
        x.add(7, 6);
        x.times(7, 8);
        x.number(50);
        x.add(2, 10);
        x.add(11, 11);
        x.over(9, 12);
        x.over(1, x.add(2, x.number(-7)));
        due("1 / (n (n + 1))", () -> text(x, 5), "1 / 0 1 1");
        due("(n - 1) (n - 2) / (2 n + 100)", () -> text(x, 13), "1 16000 16002 / 50 1");
        due("1 / (n - 7)", () -> text(x, 16), "1 / 31996 1");
        return x;
    }

    /** "The STEP of r .. : what r times h grows by." */
    private static void whatItGrowsBy() {
        for (int k = 0; k < RATIOS.length; k++) {
            long[] h = term(RATIOS[k]);
            CertificateSums x = withFunctions(RATIOS[k]);
            for (int r : new int[] {0, 1, 2, 5, 13}) {
                int step = x.step(r);
                for (int place = 1; place <= LAST_PLACE; place += 3) {
                    int n = place;
                    due("ratio " + k + ", step of " + r + " at " + n, () -> mod(x.value(step, n) * h[n]),
                            mod(x.value(r, n + 1) * h[n + 1] - x.value(r, n) * h[n]));
                }
            }
        }
    }

    /** r times h, summed up from the place 1, against what the function found grows by. */
    private static void sumIsFound(String what, CertificateSums x, int[] asked, long[][] ratio, String text) {
        int r = asked[0];
        int d = asked[2];
        due(what + ": least", () -> x.least(r, asked[1]), d);
        int found = x.find(r, asked[1], d);
        due(what, () -> text(x, found), text);
        due(what + ": proves", () -> x.proves(r, found), true);
        long[] h = term(ratio);
        long sum = 0;
        for (int n = 1; n <= LAST_PLACE; n++) {
            sum = mod(sum + x.value(r, n) * h[n]);
            long upTo = sum;
            long next = mod(x.value(found, n + 1) * h[n + 1]);
            due(what + ": up to " + n, () -> mod(next - x.value(found, 1) * h[1]), upTo);
        }
    }

    private static void sumOfFactorials() {
        CertificateSums x = withFunctions(RATIOS[1]);
        sumIsFound("n times n!", x, new int[] {2, 1, 0}, RATIOS[1], "1 / 1");
        due("n! alone has no such sum", () -> x.least(1, 1), -1);
        due("nor over n", () -> x.least(1, 2), -1);
    }

    private static void sumOfPowersOfTwo() {
        CertificateSums x = withFunctions(RATIOS[2]);
        sumIsFound("2^n", x, new int[] {1, 1, 0}, RATIOS[2], "1 / 1");
        sumIsFound("n 2^n", x, new int[] {2, 1, 1}, RATIOS[2], "32001 1 / 1");
    }

    private static void sumOfMiddleBinomials() {
        CertificateSums x = withFunctions(RATIOS[3]);
        sumIsFound("(2n)!/(4^n n!^2)", x, new int[] {1, 1, 1}, RATIOS[3], "0 2 / 1");
    }

    private static void sumOfFractions() {
        CertificateSums x = withFunctions(RATIOS[0]);
        sumIsFound("1/(n (n + 1))", x, new int[] {5, 2, 0}, RATIOS[0], "32002 / 0 1");
        due("over 1 there is none", () -> x.least(5, 1), -1);
        CertificateSums y = withFunctions(RATIOS[4]);
        due("1/n^2 has none", () -> y.least(1, 2), -1);
    }

    /** "MOVED r is r with n + 1 in place of n": at every place, those with no value among them. */
    private static void movedByValues() {
        CertificateSums x = withFunctions(RATIOS[5]);
        int[] functions = {0, 1, 2, 5, 13, 16};
        for (int f : functions) {
            int moved = x.moved(f);
            for (long place = -3; place < 12; place++) {
                long n = place;
                due("moved " + f + " at " + n, () -> x.value(moved, n), x.value(f, n + 1));
            }
        }
        due("1 / (n - 7) has no value at 7", () -> x.value(16, 7), -1);
        due("1 / (n - 6) has none at 6", () -> x.value(x.moved(16), 6), -1);
    }

    /** "The sum.", "The product.", "The quotient.": at places where both have values. */
    private static void reckoningByValues() {
        int[] functions = {1, 2, 5, 13};
        for (int f : functions) {
            CertificateSums x = withFunctions(RATIOS[0]);
            for (int g : functions) {
                int sum = x.add(f, g);
                int product = x.times(f, g);
                int quotient = x.over(f, g);
                for (int place = 3; place < LAST_PLACE; place += 5) {
                    int n = place;
                    long a = x.value(f, n);
                    long b = x.value(g, n);
                    String at = " of " + f + " and " + g + " at " + n;
                    due("sum" + at, () -> x.value(sum, n), mod(a + b));
                    due("product" + at, () -> x.value(product, n), mod(a * b));
                    due("quotient" + at, () -> x.value(quotient, n), mod(a * inverse(b)));
                }
            }
        }
    }

    /** "so that the STEP of y through q's TOP .. is r" */
    private static void stepOfWhatIsFound() {
        for (int k = 0; k < RATIOS.length; k++) {
            for (int q : new int[] {1, 2, 4, 9, 11}) {
                CertificateSums x = withFunctions(RATIOS[k]);
                int through = x.over(13, x.times(q, 6));
                int y = x.times(through, x.times(11, 2));
                int r = x.step(y);
                String what = "ratio " + k + " over " + q;
                int least = x.least(r, q);
                due(what + ": there is one", () -> least >= 0 && least <= 3, true);
                int found = x.find(r, q, 8);
                due(what + ": its step", () -> x.same(x.step(found), r), true);
                due(what + ": it proves", () -> x.proves(r, found), true);
                due(what + ": nothing divides but q's TOP",
                        () -> x.degree(x.times(found, q), false), 0);
                due(what + ": with the least d", () -> x.same(x.find(r, q, least), found), true);
                due(what + ": with less", () -> least == 0 ? -1 : x.find(r, q, least - 1), -1);
            }
        }
    }

    /** A y through q whose STEP is 0 makes y's degree FREE, and no other power with it. */
    private static void freeByDefinition() {
        // With h = n!, 2^n and the like, a number through h is no function; with 1/n^2 it is n^2.
        CertificateSums x = withFunctions(RATIOS[4]);
        int square = x.times(2, 2);
        due("n^2 times 1/n^2 does not grow", () -> x.proves(0, square), true);
        int[] bases = {1, 2, 4, 9};
        int[] degrees = {2, 3, 4, 4};
        for (int k = 0; k < bases.length; k++) {
            int q = bases[k];
            int degree = degrees[k];
            int y = x.times(square, q);
            due("y over " + q, () -> x.degree(y, true), degree);
            for (int d = 0; d <= 8; d++) {
                int bound = d;
                due("1/n^2 over " + q + " with " + d, () -> x.free(q, bound), bound < degree ? 0 : 1);
            }
        }
        for (int k : new int[] {1, 2, 3, 5}) {
            CertificateSums none = withFunctions(RATIOS[k]);
            due("ratio " + k + ": nothing is free", () -> none.free(9, 8), 0);
        }
    }

    /** "(there is just one)": whatever of a CERTIFICATE of 0 was in r's own, the same is found. */
    private static void justOnePlain() {
        CertificateSums x = withFunctions(RATIOS[4]);
        int square = x.times(2, 2);
        int f = x.over(11, 2);
        int r = x.step(f);
        int plain = x.find(r, 2, 8);
        due("(n + 50) / n", () -> x.same(plain, f), true);
        for (long factor : new long[] {1, 2, 32002, 777}) {
            int more = x.times(x.number(factor), square);
            int whole = x.add(f, more);
            due("has the same step", () -> x.same(x.step(whole), r), true);
            due("is another one", () -> x.same(whole, f), false);
            due("proves it too", () -> x.proves(r, whole), true);
            due("the plain one is found", () -> x.same(x.find(x.step(whole), 2, 8), f), true);
        }
        due("the power 3 is free over n", () -> x.free(2, 3) - x.free(2, 2), 1);
    }

    /** All that can be seen of an object but for its RATIO. */
    private static String seen(CertificateSums x) {
        StringBuilder seen = new StringBuilder();
        for (int f = 0; f < x.count(); f++) {
            seen.append(text(x, f)).append("; ");
        }
        return seen.toString();
    }

    private static void ratioStays(String what, CertificateSums x, long[][] ratio) {
        for (int k = 0; k < 4; k++) {
            int power = k;
            long inTop = k < ratio[0].length ? ratio[0][k] : 0;
            long inBottom = k < ratio[1].length ? ratio[1][k] : 0;
            due(what + ": A at " + k, () -> x.ratio(true, power, inTop), false);
            due(what + ": B at " + k, () -> x.ratio(false, power, inBottom), false);
        }
    }

    private static void whatIsMadeComesLast() {
        On[] makers = {
            x -> x.number(5), x -> x.letter(), x -> x.add(13, 5), x -> x.times(13, 5), x -> x.over(13, 5),
            x -> x.moved(13), x -> x.step(13), x -> x.find(0, 13, 8)
        };
        for (int k = 0; k < makers.length; k++) {
            CertificateSums x = withFunctions(RATIOS[5]);
            String before = seen(x);
            int had = x.count();
            String what = "maker " + k;
            int maker = k;
            due(what, () -> makers[maker].answer(x), had);
            due(what + ": one more", x::count, had + 1);
            due(what + ": the others stay", () -> seen(x).startsWith(before), true);
            ratioStays(what, x, RATIOS[5]);
        }
    }

    private static void whatIsAskedChangesNothing() {
        On[] questions = {
            x -> x.proves(13, 5), x -> x.least(13, 5), x -> x.least(0, 13), x -> x.free(13, 8),
            x -> x.find(16, 13, 8), x -> x.degree(13, false), x -> x.at(13, true, 1), x -> x.value(13, 4),
            x -> x.same(13, 5), x -> x.count()
        };
        Object[] answers = {false, -1, 0, 0, -1, 1, 16000, null, false, 17};
        for (int k = 0; k < questions.length; k++) {
            CertificateSums x = withFunctions(RATIOS[5]);
            String before = seen(x);
            String what = "question " + k;
            Object first = questions[k].answer(x);
            int question = k;
            due(what, () -> first, answers[k] == null ? mod(6 * inverse(108)) : answers[k]);
            due(what + ", again", () -> questions[question].answer(x), first);
            due(what + ": all stay", () -> seen(x), before);
            ratioStays(what, x, RATIOS[5]);
        }
    }

    /** What one object is told another does not know. */
    private static void objectsApart() {
        CertificateSums x = new CertificateSums();
        CertificateSums y = new CertificateSums();
        due("x: 5", () -> x.number(5), 0);
        due("y: n", y::letter, 0);
        due("x: ratio", () -> x.ratio(true, 0, 2), true);
        due("y: its ratio is 1", () -> y.ratio(true, 0, 1), false);
        due("x: step", () -> text(x, x.step(0)), "5 / 1");
        due("y: step", () -> text(y, y.step(0)), "1 / 1");
        due("x: B is 0", () -> x.ratio(false, 0, 0), true);
        due("y: free", () -> y.free(1, 0), 1);
        due("x: free", () -> x.free(1, 0), ZERO);
        due("y: one more", y::letter, 2);
        due("x: two", x::count, 2);
        due("y: three", y::count, 3);
        due("x: none", () -> x.degree(2, true), NONE);
    }

    /** One object after another, and both at once, call by call. */
    private static void sameCallsSameAnswers() {
        for (long[][] ratio : RATIOS) {
            CertificateSums x = withFunctions(ratio);
            CertificateSums y = withFunctions(ratio);
            for (int f : new int[] {0, 1, 2, 5, 13, 16}) {
                due("least", () -> x.least(f, 11), y.least(f, 11));
                due("step", () -> x.step(f), y.step(f));
                due("find", () -> x.find(f, 2, 5), y.find(f, 2, 5));
            }
            due("all of it", () -> seen(x), seen(y));
        }
    }
}
