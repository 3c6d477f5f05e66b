/**
 * The bounds that the document names, one sentence after the other, from both of their sides. What is
 * refused is looked at once more, with all that must not change, in CertificateSumsRefusals.
 */
public final class CertificateSumsBounds extends Checks {
    private static final long P = 32003;

    private interface Maker {
        int make(CertificateSums x);
    }

    public static void main(String[] args) {
        numbersWrap();
        numbersOfLongs();
        numbersInSumsAndProducts();
        degreeOfZero();
        zeroHasOneForm();
        bottomEndsWithOne();
        lowestTerms();
        handlesInOrder();
        handlesOfAll();
        emptyObject();
        sameParts();
        ratioAtFirst();
        ratioPowers();
        ratioAnother();
        ratioLeavesFunctions();
        ratioTopIsZero();
        ratioBottomOfOnePower();
        ratioBottomIsZeroForAWhile();
        movedWraps();
        certificateDegrees();
        certificateOfDegreeZero();
        certificateOfZero();
        certificateBeyondEight();
        noCertificate();
        freePowers();
        plainAtTheFreePower();
        justTheTopOfBase();
        greatTops();
        greatBottoms();
        greatSums();
        greatSteps();
        greatMoved();
        greatFound();
        greatProves();
        fiftieth();
        findAtTheLastPlace();
        fullButAnswering();
        powersOfAt();
        valuesAndPoles();
        lastCall();
        finish();
    }

    private static int power(CertificateSums x, int f, int exponent) {
        int product = x.number(1);
        for (int k = 0; k < exponent; k++) {
            product = x.times(product, f);
        }
        return product;
    }

    /** "NUMBERS are modulo 32003, 0 .. 32002." */
    private static void numbersWrap() {
        CertificateSums x = new CertificateSums();
        long[] given = {0, 1, 32002, 32003, 32004, 64006, -1, -32002, -32003, -32004};
        long[] held = {0, 1, 32002, 0, 1, 0, 32002, 1, 0, 32002};
        for (int k = 0; k < given.length; k++) {
            long v = given[k];
            due("number " + v, () -> text(x, x.number(v)), held[k] + " / 1");
            due("ratio 1 " + v, () -> x.ratio(true, 1, v), held[k] != (k == 0 ? 0 : held[k - 1]));
            due("n at " + v, () -> x.value(x.letter(), v), held[k]);
        }
    }

    private static void numbersOfLongs() {
        CertificateSums x = new CertificateSums();
        int n = x.letter();
        long least = Math.floorMod(Long.MIN_VALUE, P);
        long greatest = Long.MAX_VALUE % P;
        due("the least long", () -> text(x, x.number(Long.MIN_VALUE)), least + " / 1");
        due("the greatest long", () -> text(x, x.number(Long.MAX_VALUE)), greatest + " / 1");
        due("at the least long", () -> x.value(n, Long.MIN_VALUE), least);
        due("at the greatest long", () -> x.value(n, Long.MAX_VALUE), greatest);
        for (boolean top : new boolean[] {true, false}) {
            due("ratio of the least long", () -> x.ratio(top, 3, Long.MIN_VALUE), true);
            due("and its rest", () -> x.ratio(top, 3, least), false);
            due("ratio of the greatest long", () -> x.ratio(top, 3, Long.MAX_VALUE), true);
            due("and its rest", () -> x.ratio(top, 3, greatest), false);
        }
    }

    private static void numbersInSumsAndProducts() {
        CertificateSums x = new CertificateSums();
        int last = x.number(32002);
        int one = x.number(1);
        int n = x.letter();
        due("32002 + 1", () -> text(x, x.add(last, one)), "0 / 1");
        due("32002 + 32002", () -> text(x, x.add(last, last)), "32001 / 1");
        due("32002 times 32002", () -> text(x, x.times(last, last)), "1 / 1");
        due("1 over 32002", () -> text(x, x.over(one, last)), "32002 / 1");
        due("1 over 2", () -> text(x, x.over(one, x.number(2))), "16002 / 1");
        due("32002 n", () -> text(x, x.times(last, n)), "0 32002 / 1");
        due("32002 n + n", () -> text(x, x.add(x.times(last, n), n)), "0 / 1");
        due("(n - 1)^2", () -> text(x, power(x, x.add(n, last), 2)), "1 32001 1 / 1");
    }

    /** "its degree is that of the highest one, -1 of 0" */
    private static void degreeOfZero() {
        CertificateSums x = new CertificateSums();
        int zero = x.number(0);
        int n = x.letter();
        due("TOP of 0", () -> x.degree(zero, true), -1);
        due("BOTTOM of 0", () -> x.degree(zero, false), 0);
        due("TOP of 1", () -> x.degree(x.number(1), true), 0);
        due("TOP of n", () -> x.degree(n, true), 1);
        due("TOP of 1/n", () -> x.degree(x.over(x.number(1), n), true), 0);
        due("BOTTOM of 1/n", () -> x.degree(x.over(x.number(1), n), false), 1);
        due("TOP of n^2 - n^2 + 1",
                () -> x.degree(x.add(polynomial(x, 1, 0, 1), polynomial(x, 0, 0, -1)), true), 0);
    }

    /** 0 is in lowest terms just as 0 through 1, however it was made. */
    private static void zeroHasOneForm() {
        CertificateSums x = new CertificateSums();
        int zero = x.number(0);
        int n = x.letter();
        int f = x.over(n, x.add(n, x.number(2)));
        int[] made = {
            x.number(-32003), x.times(f, zero), x.times(zero, f), x.over(zero, f), x.over(zero, n),
            x.add(f, x.times(f, x.number(-1))), x.add(zero, zero), x.moved(zero), x.step(zero),
            x.step(x.number(7)), x.find(zero, f, 8)
        };
        for (int k = 0; k < made.length; k++) {
            int handle = made[k];
            due("0 made " + k, () -> text(x, handle), "0 / 1");
            due("0 made " + k + " is 0", () -> x.same(handle, zero), true);
            due("0 made " + k + " divides nothing", () -> x.over(f, handle), ZERO);
        }
    }

    /** "the BOTTOM having 1 at its highest power" */
    private static void bottomEndsWithOne() {
        CertificateSums x = new CertificateSums();
        int three = x.number(3);
        int f = polynomial(x, 1, 2);
        due("3 / (1 + 2 n)", () -> text(x, x.over(three, f)), "16003 / 16002 1");
        due("3 / 5", () -> text(x, x.over(three, x.number(5))), "25603 / 1");
        due("moved", () -> text(x, x.moved(x.over(three, f))), "16003 / 16003 1");
        due("a product", () -> text(x, x.times(x.over(three, f), x.over(three, f))),
                "8003 / 8001 1 1");
        x.ratio(false, 1, 2);
        due("a step with 1 / (1 + 2 n)", () -> text(x, x.step(three)), "0 32000 / 16002 1");
        int base = x.times(f, x.number(7));
        due("a certificate", () -> x.at(x.find(x.step(x.over(x.number(1), base)), base, 8), false, 1), 1);
    }

    /** "in lowest terms" */
    private static void lowestTerms() {
        CertificateSums x = new CertificateSums();
        int n = x.letter();
        int next = x.moved(n);
        int before = x.add(n, x.number(-1));
        int f = x.over(x.times(n, next), x.times(n, before));
        due("n (n + 1) / (n (n - 1))", () -> text(x, f), "1 1 / 32002 1");
        due("times (n - 1)", () -> text(x, x.times(f, before)), "1 1 / 1");
        due("times itself turned round", () -> text(x, x.times(f, x.over(before, next))), "1 / 1");
        due("over itself", () -> text(x, x.over(f, f)), "1 / 1");
        due("less 1", () -> text(x, x.add(f, x.number(-1))), "2 / 32002 1");
        due("less 1, less 2 / (n - 1)",
                () -> text(x, x.add(x.add(f, x.number(-1)), x.over(x.number(-2), before))), "0 / 1");
        due("y and q have a divisor", () -> text(x, x.find(x.number(1), n, 2)), "0 1 / 1");
    }

    /** "FUNCTIONS have handles, 0 .. 49, in the order in which they were made" */
    private static void handlesInOrder() {
        CertificateSums x = new CertificateSums();
        x.number(1);
        x.letter();
        Maker[] makers = {
            y -> y.number(y.count()), y -> y.letter(), y -> y.add(1, 2), y -> y.times(1, 2),
            y -> y.over(1, 2), y -> y.moved(1), y -> y.step(1), y -> y.find(0, 0, 8)
        };
        String[] texts = {
            null, "0 1 / 1", "2 1 / 1", "0 2 / 1", "0 16002 / 1", "1 1 / 1", "1 / 1", "0 1 / 1"
        };
        due("handle 2", () -> x.number(2), 2);
        for (int k = 3; k < 50; k++) {
            int handle = k;
            due("handle " + k, () -> makers[handle % 8].make(x), handle);
            due("count behind " + k, x::count, handle + 1);
        }
        for (int k = 3; k < 50; k++) {
            int f = k;
            due("function " + k, () -> text(x, f), k % 8 == 0 ? k + " / 1" : texts[k % 8]);
        }
        due("a 51st", () -> x.number(1), FULL);
        due("handle 50", () -> x.degree(50, true), NONE);
    }

    /** The first and the last handle serve everywhere, and the one behind the last nowhere. */
    private static void handlesOfAll() {
        for (int count = 1; count < 50; count += 24) {
            CertificateSums x = new CertificateSums();
            for (int k = 0; k < count; k++) {
                x.number(k + 1);
            }
            for (int f : new int[] {0, count - 1}) {
                due("degree of " + f, () -> x.degree(f, true), 0);
                due("at in " + f, () -> x.at(f, true, 0), f + 1);
                due("value of " + f, () -> x.value(f, 9), f + 1);
                due("same of " + f, () -> x.same(f, f), true);
                due("proves of " + f, () -> x.proves(f, f), false);
                due("least of " + f, () -> x.least(f, f), 1);
                due("free of " + f, () -> x.free(f, 0), 1);
            }
            int last = count;
            due("degree of none", () -> x.degree(last, true), NONE);
            due("at in none", () -> x.at(last, true, 0), NONE);
            due("moved of the last", () -> x.moved(last - 1), last);
            due("which there is now", () -> x.value(last, 0), last);
        }
        CertificateSums full = filled();
        due("handle 49", () -> full.value(49, 0), 49);
        due("handles 49 and 0", () -> full.same(49, 0), false);
        due("handles 0 and 49", () -> full.proves(0, 49), true);
    }

    /** "no functions" */
    private static void emptyObject() {
        CertificateSums x = new CertificateSums();
        due("count", x::count, 0);
        for (int f : new int[] {0, -1, 1, 49, 50}) {
            due("new: add", () -> x.add(f, f), NONE);
            due("new: times", () -> x.times(f, f), NONE);
            due("new: over", () -> x.over(f, f), NONE);
            due("new: moved", () -> x.moved(f), NONE);
            due("new: step", () -> x.step(f), NONE);
            due("new: proves", () -> x.proves(f, f), NONE);
            due("new: find", () -> x.find(f, f, 0), NONE);
            due("new: least", () -> x.least(f, f), NONE);
            due("new: free", () -> x.free(f, 0), NONE);
            due("new: degree", () -> x.degree(f, true), NONE);
            due("new: at", () -> x.at(f, true, 0), NONE);
            due("new: value", () -> x.value(f, 0), NONE);
            due("new: same", () -> x.same(f, f), NONE);
        }
        due("count as before", x::count, 0);
        due("the first handle", x::letter, 0);
        due("another object has its own", () -> new CertificateSums().count(), 0);
    }

    /** "are the same if both parts are" */
    private static void sameParts() {
        CertificateSums x = new CertificateSums();
        int top = polynomial(x, 1, 2);
        int bottom = polynomial(x, 3, 4, 1);
        int one = x.number(1);
        int two = x.number(2);
        int f = x.over(top, bottom);
        due("itself", () -> x.same(f, f), true);
        due("made again", () -> x.same(f, x.over(top, bottom)), true);
        due("with 2 times both", () -> x.same(f, x.over(x.times(top, two), x.times(bottom, two))), true);
        due("another lowest number in the TOP", () -> x.same(f, x.over(x.add(top, one), bottom)), false);
        due("the other way round", () -> x.same(x.over(x.add(top, one), bottom), f), false);
        due("another lowest number in the BOTTOM", () -> x.same(f, x.over(top, x.add(bottom, one))), false);
        due("a TOP that goes on", () -> x.same(f, x.over(x.add(top, bottom), bottom)), false);
        due("the same TOP through 1", () -> x.same(f, top), false);
        due("twice it", () -> x.same(f, x.add(f, f)), false);
        due("2 and 32005", () -> x.same(two, x.number(32005)), true);
    }

    /** "both 1 at first", "The RATIO is 1" */
    private static void ratioAtFirst() {
        for (boolean top : new boolean[] {true, false}) {
            CertificateSums x = new CertificateSums();
            due("1 at 0", () -> x.ratio(top, 0, 1), false);
            for (int k = 1; k < 4; k++) {
                int power = k;
                due("0 at " + k, () -> x.ratio(top, power, 0), false);
            }
            due("1 was not 0", () -> x.ratio(top, 0, 0), true);
        }
        CertificateSums y = new CertificateSums();
        due("the step of n is 1", () -> text(y, y.step(y.letter())), "1 / 1");
        due("the step of 1 is 0", () -> text(y, y.step(y.number(1))), "0 / 1");
    }

    /** "with powers 0 .. 3": each of them is set alone, in A or in B. */
    private static void ratioPowers() {
        String[] inTop = {"6", "0 7", "0 0 7", "0 0 0 7"};
        String[] inBottom = {"1", "4572 1", "4572 0 1", "4572 0 0 1"};
        for (int k = 0; k < 4; k++) {
            int power = k;
            CertificateSums a = new CertificateSums();
            due("A at " + k, () -> a.ratio(true, power, 7), true);
            due("what A has become", () -> text(a, a.step(a.number(1))), inTop[k] + " / 1");
            CertificateSums b = new CertificateSums();
            due("B at " + k, () -> b.ratio(false, power, 7), true);
            due("what B has become", () -> part(b, b.step(b.number(1)), false), inBottom[k]);
        }
        CertificateSums x = new CertificateSums();
        for (int power : new int[] {-1, 4, Integer.MIN_VALUE, Integer.MAX_VALUE}) {
            due("A at " + power, () -> x.ratio(true, power, 7), WRONG);
            due("B at " + power, () -> x.ratio(false, power, 7), WRONG);
        }
        due("the step of n is 1 as before", () -> text(x, x.step(x.letter())), "1 / 1");
    }

    /** "whether it is another one", from either side of 32003 */
    private static void ratioAnother() {
        CertificateSums x = new CertificateSums();
        for (boolean top : new boolean[] {true, false}) {
            due("0 to 32003", () -> x.ratio(top, 2, 32003), false);
            due("0 to 32002", () -> x.ratio(top, 2, 32002), true);
            due("32002 to -1", () -> x.ratio(top, 2, -1), false);
            due("32002 to 64005", () -> x.ratio(top, 2, 64005), false);
            due("32002 to 0", () -> x.ratio(top, 2, 0), true);
            due("0 to -32003", () -> x.ratio(top, 2, -32003), false);
            due("1 to 32004", () -> x.ratio(top, 0, 32004), false);
            due("1 to -32002", () -> x.ratio(top, 0, -32002), false);
            due("1 to 32003", () -> x.ratio(top, 0, 32003), true);
            due("0 to 0", () -> x.ratio(top, 0, 0), false);
        }
    }

    /** "(Functions stay as they are.)" */
    private static void ratioLeavesFunctions() {
        CertificateSums x = new CertificateSums();
        x.ratio(true, 1, 1);
        int n = x.letter();
        int step = x.step(n);
        int found = x.find(n, x.number(1), 0);
        due("a step", () -> text(x, step), "1 1 1 / 1");
        due("a certificate", () -> text(x, found), "1 / 1");
        x.ratio(true, 1, 5);
        x.ratio(false, 2, 5);
        due("the step stays", () -> text(x, step), "1 1 1 / 1");
        due("the certificate stays", () -> text(x, found), "1 / 1");
        due("but is none any more", () -> x.proves(n, found), false);
        due("and none is made or lost", x::count, 4);
    }

    /** A may be 0: every STEP is then less r. */
    private static void ratioTopIsZero() {
        CertificateSums x = new CertificateSums();
        x.ratio(true, 0, 0);
        int n = x.letter();
        int one = x.number(1);
        int f = x.over(one, n);
        due("step of 1/n", () -> text(x, x.step(f)), "32002 / 0 1");
        due("proves", () -> x.proves(x.step(f), f), true);
        due("find", () -> text(x, x.find(f, n, 0)), "32002 / 0 1");
        due("least of n over n", () -> x.least(n, n), 2);
        due("nothing is free", () -> x.free(n, 8), 0);
        due("least of n^8", () -> x.least(power(x, n, 8), one), 8);
        due("least of n^9", () -> x.least(power(x, n, 9), one), -1);
    }

    /** B is 0 only when all of its four numbers are. */
    private static void ratioBottomOfOnePower() {
        for (int k = 0; k < 4; k++) {
            CertificateSums x = new CertificateSums();
            x.ratio(false, 0, 0);
            x.ratio(false, k, 32002);
            int one = x.number(1);
            int step = x.step(one);
            int power = k;
            due("step with B at " + k, () -> x.at(step, true, 0), power == 0 ? 32001 : 32002);
            due("proves with B at " + k, () -> x.proves(step, one), true);
            due("least with B at " + k, () -> x.least(step, one), 0);
            due("find with B at " + k, () -> text(x, x.find(step, one, 0)), "1 / 1");
            due("free with B at " + k, () -> x.free(one, 8), 0);
            x.ratio(false, k, 32003);
            due("step with B 0", () -> x.step(one), ZERO);
            due("proves with B 0", () -> x.proves(step, one), ZERO);
            due("least with B 0", () -> x.least(step, one), ZERO);
            due("find with B 0", () -> x.find(step, one, 0), ZERO);
            due("free with B 0", () -> x.free(one, 8), ZERO);
        }
    }

    /** B may be 0 for what does not look at it, and may come back. */
    private static void ratioBottomIsZeroForAWhile() {
        CertificateSums x = new CertificateSums();
        int n = x.letter();
        x.ratio(false, 0, 0);
        due("B 0: number", () -> text(x, x.number(4)), "4 / 1");
        due("B 0: letter", () -> text(x, x.letter()), "0 1 / 1");
        due("B 0: add", () -> text(x, x.add(n, 1)), "4 1 / 1");
        due("B 0: times", () -> text(x, x.times(n, 1)), "0 4 / 1");
        due("B 0: over", () -> text(x, x.over(1, n)), "4 / 0 1");
        due("B 0: moved", () -> text(x, x.moved(n)), "1 1 / 1");
        due("B 0: degree", () -> x.degree(n, true), 1);
        due("B 0: at", () -> x.at(n, true, 1), 1);
        due("B 0: value", () -> x.value(n, 8), 8);
        due("B 0: same", () -> x.same(n, 2), true);
        due("B 0: count", x::count, 7);
        due("B 0: step", () -> x.step(n), ZERO);
        due("A is set while B is 0", () -> x.ratio(true, 0, 2), true);
        due("B comes back", () -> x.ratio(false, 2, 1), true);
        due("step with 2 / n^2", () -> text(x, x.step(n)), "2 2 0 32002 / 0 0 1");
    }

    /** "MOVED r is r with n + 1 in place of n", where 32003 comes round. */
    private static void movedWraps() {
        CertificateSums x = new CertificateSums();
        int n = x.letter();
        int before = x.add(n, x.number(32002));
        due("moved n - 1", () -> text(x, x.moved(before)), "0 1 / 1");
        due("moved n + 32001", () -> text(x, x.moved(x.add(n, x.number(32001)))), "32002 1 / 1");
        int f = x.over(x.number(1), n);
        due("moved 1/n at 32002", () -> x.value(x.moved(f), 32002), -1);
        due("1/n at 32002", () -> x.value(f, 32002), 32002);
        due("moved n at 32002", () -> x.value(x.moved(n), 32002), 0);
    }

    /** "a POLYNOMIAL y of a degree of at most d": n^d is the one of its own step, and d - 1 too few. */
    private static void certificateDegrees() {
        for (int k = 1; k <= 8; k++) {
            CertificateSums x = new CertificateSums();
            int d = k;
            int one = x.number(1);
            int y = power(x, x.letter(), d);
            int r = x.step(y);
            int had = x.count();
            due("least of degree " + d, () -> x.least(r, one), d);
            for (int less = 0; less < d; less++) {
                int few = less;
                due("find of degree " + d + " with " + few, () -> x.find(r, one, few), -1);
            }
            due("none is made", x::count, had);
            due("find with " + d, () -> x.find(r, one, d), had);
            due("it is n^" + d, () -> x.same(had, y), true);
            for (int more = d; more <= 8; more++) {
                int many = more;
                due("find of degree " + d + " with " + many, () -> x.same(x.find(r, one, many), y), true);
            }
        }
    }

    private static void certificateOfDegreeZero() {
        CertificateSums x = new CertificateSums();
        x.ratio(true, 0, 3);
        int two = x.number(2);
        int one = x.number(1);
        due("least d of 2 with the ratio 3", () -> x.least(two, one), 0);
        due("find with 0", () -> text(x, x.find(two, one, 0)), "1 / 1");
        due("find with 8", () -> text(x, x.find(two, one, 8)), "1 / 1");
        due("free with 0", () -> x.free(one, 0), 0);
    }

    /** 0 has a CERTIFICATE with every d, and the PLAIN one is 0, whether a power is FREE or not. */
    private static void certificateOfZero() {
        for (int d = 0; d <= 8; d++) {
            int bound = d;
            CertificateSums x = new CertificateSums();
            int zero = x.number(0);
            int one = x.number(1);
            due("of 0 over 1 with " + d, () -> text(x, x.find(zero, one, bound)), "0 / 1");
            due("of 0 over n with " + d, () -> text(x, x.find(zero, x.letter(), bound)), "0 / 1");
            x.ratio(true, 3, 4);
            due("of 0 with another ratio and " + d, () -> text(x, x.find(zero, one, bound)), "0 / 1");
            due("least of 0", () -> x.least(zero, one), 0);
        }
    }

    /** "-1 if it has none with 8": 9 would do, and is not looked for. */
    private static void certificateBeyondEight() {
        CertificateSums x = new CertificateSums();
        int one = x.number(1);
        int n = x.letter();
        int eighth = power(x, n, 8);
        int r8 = x.step(eighth);
        int r9 = x.step(x.times(eighth, n));
        int had = x.count();
        due("least 8", () -> x.least(r8, one), 8);
        due("least 9", () -> x.least(r9, one), -1);
        due("least 9 over n, where 8 is 9", () -> x.least(r8, n), -1);
        due("find 9 with 8", () -> x.find(r9, one, 8), -1);
        due("find 9 with 9", () -> x.find(r9, one, 9), WRONG);
        due("none is made", x::count, had);
        due("find 8 with 8", () -> x.same(x.find(r8, one, 8), eighth), true);
    }

    /** "-1 (none is made) if there is none" */
    private static void noCertificate() {
        CertificateSums x = new CertificateSums();
        int one = x.number(1);
        int n = x.letter();
        int f = x.over(one, n);
        int had = x.count();
        for (int d = 0; d <= 8; d++) {
            int bound = d;
            due("1/n over n with " + d, () -> x.find(f, n, bound), -1);
            due("1/n over 1 with " + d, () -> x.find(f, one, bound), -1);
        }
        due("least over n", () -> x.least(f, n), -1);
        due("none is made", x::count, had);
        due("the next handle", x::letter, had);
    }

    /** "A power is FREE if it is the highest one of some CERTIFICATE .. of 0": over n^k that is k. */
    private static void freePowers() {
        for (int k = 0; k <= 9; k++) {
            CertificateSums x = new CertificateSums();
            int q = power(x, x.letter(), k);
            for (int d = 0; d <= 8; d++) {
                int bound = d;
                due("free over n^" + k + " with " + d, () -> x.free(q, bound), d >= k ? 1 : 0);
            }
            due("with -1", () -> x.free(q, -1), WRONG);
            due("with 9", () -> x.free(q, 9), WRONG);
        }
    }

    /** "the PLAIN one is that which has 0 at all FREE powers", the power 8 among them. */
    private static void plainAtTheFreePower() {
        CertificateSums x = new CertificateSums();
        int n = x.letter();
        int q = power(x, n, 8);
        int f = x.over(x.number(6), q);
        int r = x.step(x.add(f, x.number(5)));
        due("least", () -> x.least(r, q), 0);
        due("with 0", () -> x.same(x.find(r, q, 0), f), true);
        due("with 7", () -> x.same(x.find(r, q, 7), f), true);
        due("with 8", () -> x.same(x.find(r, q, 8), f), true);
        due("over 2 with 8", () -> text(x, x.find(x.step(polynomial(x, 5, 1)), x.number(2), 8)), "0 1 / 1");
        // Over (n + 3)^2 the power 2 is free, and n^2 + 9 less (n + 3)^2 is -6 n.
        CertificateSums y = new CertificateSums();
        int base = polynomial(y, 9, 6, 1);
        int part = y.step(y.over(polynomial(y, 9, 0, 1), base));
        due("what is free is taken away whole", () -> text(y, y.find(part, base, 2)), "0 31997 / 9 6 1");
        due("least of it", () -> y.least(part, base), 1);
        due("and with 1", () -> text(y, y.find(part, base, 1)), "0 31997 / 9 6 1");
        due("but not with 0", () -> y.find(part, base, 0), -1);
    }

    /** "y through q's TOP": q's BOTTOM changes nothing. */
    private static void justTheTopOfBase() {
        CertificateSums x = new CertificateSums();
        int n = x.letter();
        int one = x.number(1);
        int q = x.over(n, x.add(n, x.number(4)));
        int r = x.step(x.over(one, n));
        due("find", () -> text(x, x.find(r, q, 0)), "1 / 0 1");
        due("least", () -> x.least(r, q), 0);
        due("free with 0", () -> x.free(q, 0), 0);
        due("free with 1", () -> x.free(q, 1), 1);
        due("over 1/n", () -> text(x, x.find(one, x.over(one, n), 1)), "0 1 / 1");
    }

    /** "A FUNCTION is TOO GREAT if its TOP .. has a degree above 20." */
    private static void greatTops() {
        CertificateSums x = new CertificateSums();
        int n = x.letter();
        int most = power(x, n, 19);
        int under = x.over(x.number(1), n);
        int twenty = x.times(most, n);
        due("n^19 times n", () -> x.degree(twenty, true), 20);
        due("n^19 over 1/n", () -> x.same(x.over(most, under), twenty), true);
        int had = x.count();
        due("n^20 times n", () -> x.times(twenty, n), FULL);
        due("n times n^20", () -> x.times(n, twenty), FULL);
        due("n^20 over 1/n", () -> x.over(twenty, under), FULL);
        due("none is made", x::count, had);
        due("21 that falls to 20", () -> text(x, x.over(x.times(twenty, under), most)), "1 / 1");
        due("40 that falls to 0", () -> text(x, x.over(twenty, twenty)), "1 / 1");
    }

    /** "A FUNCTION is TOO GREAT if its .. BOTTOM has a degree above 20." */
    private static void greatBottoms() {
        CertificateSums x = new CertificateSums();
        int n = x.letter();
        int one = x.number(1);
        int under = x.over(one, n);
        int most = x.over(one, power(x, n, 19));
        int twenty = x.times(most, under);
        due("1/n^19 times 1/n", () -> x.degree(twenty, false), 20);
        due("1/n^19 over n", () -> x.same(x.over(most, n), twenty), true);
        int had = x.count();
        due("1/n^20 times 1/n", () -> x.times(twenty, under), FULL);
        due("1/n times 1/n^20", () -> x.times(under, twenty), FULL);
        due("1/n^20 over n", () -> x.over(twenty, n), FULL);
        due("none is made", x::count, had);
        due("20 that falls to 19", () -> x.same(x.times(twenty, n), most), true);
        due("turned round", () -> x.degree(x.over(one, twenty), true), 20);
    }

    private static void greatSums() {
        CertificateSums x = new CertificateSums();
        int n = x.letter();
        int one = x.number(1);
        int under = x.over(one, n);
        int aside = x.moved(under);
        int top19 = power(x, n, 19);
        int top20 = x.times(top19, n);
        int bottom19 = x.over(one, top19);
        int bottom20 = x.over(one, top20);
        due("n^19 + 1/n", () -> x.degree(x.add(top19, under), true), 20);
        due("n^20 + 1/n", () -> x.add(top20, under), FULL);
        due("1/n + n^20", () -> x.add(under, top20), FULL);
        due("1/n^19 + 1/(n + 1)", () -> x.degree(x.add(bottom19, aside), false), 20);
        due("1/n^20 + 1/(n + 1)", () -> x.add(bottom20, aside), FULL);
        due("1/n^20 + 1/n^20", () -> x.degree(x.add(bottom20, bottom20), false), 20);
        due("1/n^20 + 1/n^19", () -> x.degree(x.add(bottom20, bottom19), true), 1);
        due("n^20 + n^20", () -> x.at(x.add(top20, top20), true, 20), 2);
        due("1/n^20 + 1", () -> x.degree(x.add(bottom20, one), true), 20);
        due("1/n^20 + n", () -> x.add(bottom20, n), FULL);
    }

    private static void greatSteps() {
        CertificateSums x = new CertificateSums();
        int n = x.letter();
        int top19 = power(x, n, 19);
        int top20 = x.times(top19, n);
        due("step of n^20 with 1", () -> x.degree(x.step(top20), true), 19);
        x.ratio(true, 1, 1);
        due("step of n^19 with n + 1", () -> x.degree(x.step(top19), true), 20);
        due("step of n^20 with n + 1", () -> x.step(top20), FULL);
        CertificateSums y = new CertificateSums();
        int ninth = y.over(y.number(1), power(y, y.letter(), 9));
        int tenth = y.over(ninth, 1);
        due("step of 1/n^10 with 1", () -> y.degree(y.step(tenth), false), 20);
        due("step of 1/n^11 with 1", () -> y.step(y.over(tenth, 1)), FULL);
        y.ratio(false, 0, 2);
        y.ratio(false, 1, 1);
        due("step of 1/n^9 with 1/(n + 2)", () -> y.degree(y.step(ninth), false), 19);
        due("step of 1/n^10 with 1/(n + 2)", () -> y.step(tenth), FULL);
        y.ratio(false, 0, 5);
        y.ratio(false, 2, 1);
        due("step of 1/n^9 with 1/(n^2 + n + 5)", () -> y.degree(y.step(ninth), false), 20);
        y.ratio(false, 3, 1);
        due("step of 1/n^9 with one power more", () -> y.step(ninth), FULL);
    }

    /** MOVED has the degrees of what was moved, so it is never TOO GREAT. */
    private static void greatMoved() {
        CertificateSums x = new CertificateSums();
        int top20 = power(x, x.letter(), 20);
        due("moved n^20", () -> x.degree(x.moved(top20), true), 20);
        due("moved n^20 at 19", () -> x.at(x.moved(top20), true, 19), 20);
        int bottom20 = x.over(x.number(1), top20);
        due("moved 1/n^20", () -> x.degree(x.moved(bottom20), false), 20);
        due("moved 1/n^20 at 1", () -> x.at(x.moved(bottom20), false, 1), 20);
    }

    /** A CERTIFICATE through a TOP of degree 20. */
    private static void greatFound() {
        // With (n + 21)/(n + 1) the step of y / q is (MOVED y - y) / q, if q is (n + 1) .. (n + 20).
        CertificateSums x = withRatio(new long[] {21, 1}, new long[] {1, 1});
        int factor = x.moved(x.letter());
        int q = factor;
        for (int k = 2; k <= 20; k++) {
            factor = x.moved(factor);
            q = x.times(q, factor);
        }
        int base = q;
        int r = x.over(x.number(1), base);
        due("least", () -> x.least(r, base), 1);
        due("find with 0", () -> x.find(r, base, 0), -1);
        int found = x.find(r, base, 1);
        due("find with 1", () -> part(x, found, true), "0 1");
        due("its BOTTOM", () -> part(x, found, false), part(x, base, true));
        due("proves", () -> x.proves(r, found), true);
        due("free with 0", () -> x.free(base, 0), 1);
        due("q's BOTTOM of degree 20", () -> x.least(r, r), -1);
    }

    /** "Whether f is the STEP of g (which may be TOO GREAT)" */
    private static void greatProves() {
        CertificateSums x = withRatio(new long[] {1, 0, 0, 4}, new long[] {3, 0, 0, 2});
        int top20 = power(x, x.letter(), 20);
        int bottom20 = x.over(x.number(1), top20);
        int zero = x.number(0);
        for (int g : new int[] {top20, bottom20}) {
            due("step", () -> x.step(g), FULL);
            due("proves 0", () -> x.proves(zero, g), false);
            due("proves n^20", () -> x.proves(top20, g), false);
            due("proves 1/n^20", () -> x.proves(bottom20, g), false);
        }
        x.ratio(true, 3, 0);
        x.ratio(false, 0, 1);
        x.ratio(false, 3, 0);
        int step = x.step(top20);
        due("proves the step of n^20", () -> x.proves(step, top20), true);
        due("and not of its like", () -> x.proves(step, bottom20), false);
    }

    /** "50 are there": each call that makes one makes the 50th, and not one more. */
    private static void fiftieth() {
        String[] names = {"number", "letter", "add", "times", "over", "moved", "step", "find"};
        String[] texts = {
            "7 / 1", "0 1 / 1", "2 1 / 1", "0 2 / 1", "0 16002 / 1", "1 1 / 1", "1 / 1", "0 2 / 1"
        };
        Maker[] makers = {
            x -> x.number(7), x -> x.letter(), x -> x.add(2, 3), x -> x.times(2, 3),
            x -> x.over(3, 2), x -> x.moved(3), x -> x.step(3), x -> x.find(2, 1, 8)
        };
        for (int k = 0; k < makers.length; k++) {
            CertificateSums x = new CertificateSums();
            x.number(0);
            x.number(1);
            x.number(2);
            x.letter();
            while (x.count() < 49) {
                x.number(x.count());
            }
            Maker maker = makers[k];
            due(names[k] + ": the 50th", () -> maker.make(x), 49);
            due(names[k] + ": what it is", () -> text(x, 49), texts[k]);
            due(names[k] + ": 50 are there", x::count, 50);
            due(names[k] + ": one more", () -> maker.make(x), FULL);
            due(names[k] + ": 50 are there still", x::count, 50);
            due(names[k] + ": the 50th stays", () -> text(x, 49), texts[k]);
        }
    }

    /** "it is looked for when there is room for one more" */
    private static void findAtTheLastPlace() {
        CertificateSums x = new CertificateSums();
        while (x.count() < 49) {
            x.number(x.count());
        }
        due("49 are there, and none is found", () -> x.find(1, 1, 0), -1);
        due("49 are there still", x::count, 49);
        due("49 are there, and one is found", () -> x.find(1, 1, 1), 49);
        due("50 are there, and there is none", () -> x.find(1, 1, 0), FULL);
        due("50 are there, and there is one", () -> x.find(1, 1, 1), FULL);
        due("50 are there, least", () -> x.least(1, 1), 1);
    }

    /** What makes no function is answered when 50 are there as before. */
    private static void fullButAnswering() {
        CertificateSums x = filled();
        due("full: proves", () -> x.proves(0, 49), true);
        due("full: least", () -> x.least(49, 49), 1);
        due("full: free", () -> x.free(49, 8), 1);
        due("full: degree", () -> x.degree(49, true), 0);
        due("full: at", () -> x.at(49, true, 0), 49);
        due("full: value", () -> x.value(49, -1), 49);
        due("full: same", () -> x.same(49, 48), false);
        due("full: count", x::count, 50);
        due("full: ratio", () -> x.ratio(true, 3, 1), true);
        due("full: the ratio is another", () -> x.proves(0, 49), false);
        due("full: ratio at 4", () -> x.ratio(true, 4, 1), WRONG);
    }

    /** "0 for other powers" */
    private static void powersOfAt() {
        CertificateSums x = new CertificateSums();
        int n = x.letter();
        int top20 = power(x, n, 20);
        int f = x.over(x.number(9), top20);
        int zero = x.number(0);
        due("TOP at 20", () -> x.at(top20, true, 20), 1);
        due("BOTTOM at 20", () -> x.at(f, false, 20), 1);
        due("TOP at 0", () -> x.at(f, true, 0), 9);
        due("TOP of 0 at 0", () -> x.at(zero, true, 0), 0);
        due("BOTTOM of 0 at 0", () -> x.at(zero, false, 0), 1);
        int[] others = {-1, -20, 19, 21, 22, 63, 64, 65, Integer.MIN_VALUE, Integer.MAX_VALUE};
        for (int power : others) {
            due("n^20 at " + power, () -> x.at(top20, true, power), 0);
            due("1 at " + power, () -> x.at(top20, false, power), 0);
            due("9 at " + power, () -> x.at(f, true, power), 0);
            due("1/n^20 at " + power, () -> x.at(f, false, power), 0);
            due("0 at " + power, () -> x.at(zero, true, power), 0);
        }
    }

    /** "Its value at n; -1 if its BOTTOM is 0 there." */
    private static void valuesAndPoles() {
        CertificateSums x = new CertificateSums();
        int n = x.letter();
        int f = x.over(x.add(n, x.number(-5)), x.times(n, x.add(n, x.number(1))));
        long far = P * 288000000000000L;
        for (long round : new long[] {0, P, -P, 7 * P, -1000 * P, far, -far}) {
            due("pole at 0, " + round + " on", () -> x.value(f, round), -1);
            due("pole at 32002, " + round + " on", () -> x.value(f, 32002 + round), -1);
            due("pole at -1, " + round + " on", () -> x.value(f, -1 + round), -1);
            due("0 at 5, " + round + " on", () -> x.value(f, 5 + round), 0);
            due("-4/2 at 1, " + round + " on", () -> x.value(f, 1 + round), 32001);
            due("-7/2 at -2, " + round + " on", () -> x.value(f, -2 + round), 15998);
        }
        int whole = x.over(x.times(n, f), n);
        due("a pole that was cancelled", () -> x.value(x.times(whole, n), 0), 31998);
        due("32002 is a value", () -> x.value(n, 32002), 32002);
        due("0 everywhere", () -> x.value(x.number(0), 0), 0);
    }

    /** "An object is used for at most 512 calls": the last of them answers as the first did. */
    private static void lastCall() {
        CertificateSums x = new CertificateSums();
        x.letter();
        x.number(1);
        for (int call = 3; call < 509; call++) {
            if (x.free(0, 1) != 1) {
                due("free in call " + call, () -> "another answer", 1);
            }
        }
        due("call 509", () -> x.find(0, 1, 2), 2);
        due("call 510", () -> x.proves(0, 2), true);
        due("call 511", () -> x.times(-1, 0), NONE);
        due("call 512", x::count, 3);
    }
}
