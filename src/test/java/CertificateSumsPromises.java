/** What the document promises, one promise after the other, on examples worked out by hand. */
public final class CertificateSumsPromises extends Checks {
    public static void main(String[] args) {
        newObject();
        ratio();
        number();
        letter();
        add();
        times();
        over();
        moved();
        step();
        proves();
        find();
        plainOne();
        least();
        free();
        degreeAndAt();
        value();
        same();
        count();
        tooGreat();
        greatest();
        greatestStep();
        greatestFind();
        full();
        orderOfExceptions();
        zeroTop();
        finish();
    }

    private static void newObject() {
        CertificateSums x = new CertificateSums();
        due("new: count", x::count, 0);
        due("new: no function 0", () -> x.degree(0, true), NONE);
        due("new: A at 0 is 1", () -> x.ratio(true, 0, 1), false);
        due("new: B at 0 is 1", () -> x.ratio(false, 0, 1), false);
        for (int k = 1; k < 4; k++) {
            int power = k;
            due("new: A at " + k, () -> x.ratio(true, power, 0), false);
            due("new: B at " + k, () -> x.ratio(false, power, 0), false);
        }
    }

    private static void ratio() {
        CertificateSums x = new CertificateSums();
        due("ratio: another", () -> x.ratio(true, 3, 5), true);
        due("ratio: again", () -> x.ratio(true, 3, 5), false);
        due("ratio: again, 32003 more", () -> x.ratio(true, 3, 32008), false);
        due("ratio: again, 32003 less", () -> x.ratio(true, 3, -31998), false);
        due("ratio: B has its own", () -> x.ratio(false, 3, 5), true);
        due("ratio: the least long", () -> x.ratio(false, 0, Long.MIN_VALUE), true);
        due("ratio: its rest", () -> x.ratio(false, 0, Math.floorMod(Long.MIN_VALUE, 32003L)), false);
        due("ratio: the greatest long", () -> x.ratio(false, 0, Long.MAX_VALUE), true);
        due("ratio: its rest", () -> x.ratio(false, 0, Long.MAX_VALUE % 32003), false);
        due("ratio: power 4", () -> x.ratio(true, 4, 1), WRONG);
        due("ratio: power -1", () -> x.ratio(false, -1, 1), WRONG);
        due("ratio: least power", () -> x.ratio(false, Integer.MIN_VALUE, 1), WRONG);
        due("ratio: greatest power", () -> x.ratio(true, Integer.MAX_VALUE, 1), WRONG);
        CertificateSums y = new CertificateSums();
        int f = y.letter();
        y.step(f);
        y.ratio(true, 0, 7);
        due("ratio: functions stay", () -> text(y, 1), "1 / 1");
        due("ratio: the next step uses it", () -> text(y, y.step(f)), "7 6 / 1");
    }

    private static void number() {
        CertificateSums x = new CertificateSums();
        due("number: 5", () -> x.number(5), 0);
        due("number: 5", () -> text(x, 0), "5 / 1");
        due("number: -1", () -> text(x, x.number(-1)), "32002 / 1");
        due("number: 32003", () -> text(x, x.number(32003)), "0 / 1");
        due("number: 32002", () -> text(x, x.number(32002)), "32002 / 1");
        due("number: least", () -> text(x, x.number(Long.MIN_VALUE)),
                Math.floorMod(Long.MIN_VALUE, 32003L) + " / 1");
        due("number: greatest", () -> text(x, x.number(Long.MAX_VALUE)),
                Long.MAX_VALUE % 32003 + " / 1");
    }

    private static void letter() {
        CertificateSums x = new CertificateSums();
        due("letter", x::letter, 0);
        due("letter", () -> text(x, 0), "0 1 / 1");
        due("letter: another", x::letter, 1);
        due("letter: the same", () -> x.same(0, 1), true);
    }

    private static void add() {
        CertificateSums x = new CertificateSums();
        int n = x.letter();
        int one = x.number(1);
        int overN = x.over(one, n);
        int overNext = x.over(one, x.add(n, one));
        due("add: 1/n + 1/(n + 1)", () -> text(x, x.add(overN, overNext)), "1 2 / 0 1 1");
        due("add: 1/n + 1/n", () -> text(x, x.add(overN, overN)), "2 / 0 1");
        due("add: to 0", () -> text(x, x.add(overN, x.over(x.number(-1), n))), "0 / 1");
        due("add: a top cancels", () -> text(x, x.add(n, x.times(n, x.number(-1)))), "0 / 1");
        due("add: a bottom cancels",
                () -> text(x, x.add(overN, x.over(x.add(n, x.number(-1)), n))), "1 / 1");
        int had = x.count();
        due("add: no first", () -> x.add(had, n), NONE);
        due("add: no second", () -> x.add(n, -1), NONE);
        due("add: nothing was made", x::count, had);
    }

    private static void times() {
        CertificateSums x = new CertificateSums();
        int n = x.letter();
        int f = polynomial(x, 1, 1);
        int g = polynomial(x, -1, 1);
        int product = x.times(f, g);
        due("times: (n + 1) (n - 1)", () -> text(x, product), "32002 0 1 / 1");
        due("times: a square", () -> text(x, x.times(f, f)), "1 2 1 / 1");
        due("times: cancels", () -> text(x, x.times(x.over(f, g), x.over(g, n))), "1 1 / 0 1");
        due("times: by 0", () -> text(x, x.times(x.over(f, g), x.number(0))), "0 / 1");
        due("times: no first", () -> x.times(-1, n), NONE);
        due("times: no second", () -> x.times(n, 50), NONE);
    }

    private static void over() {
        CertificateSums x = new CertificateSums();
        int f = polynomial(x, 2, 3);
        int g = polynomial(x, 4, 2);
        int zero = x.number(0);
        due("over: the bottom ends with 1", () -> text(x, x.over(f, g)), "1 16003 / 2 1");
        due("over: itself", () -> text(x, x.over(g, g)), "1 / 1");
        due("over: 0 through it", () -> text(x, x.over(zero, g)), "0 / 1");
        due("over: lowest terms", () -> text(x, x.over(x.times(f, g), x.times(g, g))), "1 16003 / 2 1");
        due("over: by a fraction", () -> text(x, x.over(f, x.over(f, g))), "4 2 / 1");
        due("over: by 0", () -> x.over(f, zero), ZERO);
        due("over: 0 by 0", () -> x.over(zero, zero), ZERO);
        due("over: no first", () -> x.over(Integer.MAX_VALUE, g), NONE);
        due("over: no second", () -> x.over(f, Integer.MIN_VALUE), NONE);
        due("over: none by 0", () -> x.over(-1, zero), NONE);
    }

    private static void moved() {
        CertificateSums x = new CertificateSums();
        int cube = polynomial(x, 0, 0, 0, 1);
        due("moved: n^3", () -> text(x, x.moved(cube)), "1 3 3 1 / 1");
        due("moved: 1/n^3", () -> text(x, x.moved(x.over(x.number(2), cube))), "2 / 1 3 3 1");
        due("moved: a number", () -> text(x, x.moved(x.number(9))), "9 / 1");
        due("moved: 0", () -> text(x, x.moved(x.number(0))), "0 / 1");
        x.ratio(false, 0, 0);
        x.ratio(true, 0, 5);
        due("moved: whatever the ratio", () -> text(x, x.moved(cube)), "1 3 3 1 / 1");
        due("moved: none", () -> x.moved(x.count()), NONE);
    }

    private static void step() {
        CertificateSums x = new CertificateSums();
        int square = polynomial(x, 0, 0, 1);
        due("step: n^2 with the ratio 1", () -> text(x, x.step(square)), "1 2 / 1");
        due("step: a number with the ratio 1", () -> text(x, x.step(x.number(8))), "0 / 1");
        CertificateSums y = withRatio(new long[] {5, -1}, new long[] {1, 1});
        due("step: 1 with (5 - n)/(n + 1)", () -> text(y, y.step(y.number(1))), "4 32001 / 1 1");
        due("step: n with (5 - n)/(n + 1)", () -> text(y, y.step(y.letter())), "5 32001 / 1");
        CertificateSums z = withRatio(new long[] {}, new long[] {0, 0, 0, 2});
        due("step: with A 0", () -> text(z, z.step(z.letter())), "0 32002 / 1");
        CertificateSums w = withRatio(new long[] {2, 2}, new long[] {2, 2});
        due("step: A through B in lowest terms", () -> text(w, w.step(w.letter())), "1 / 1");
        CertificateSums u = withRatio(new long[] {1}, new long[] {0, 0, 0, 1});
        due("step: B of degree 3", () -> text(u, u.step(u.number(1))), "1 0 0 32002 / 0 0 0 1");
        int one = x.number(1);
        x.ratio(false, 0, 0);
        due("step: B is 0", () -> x.step(one), ZERO);
        due("step: none", () -> x.step(-1), NONE);
        due("step: none, and B is 0", () -> x.step(x.count()), NONE);
    }

    private static void proves() {
        CertificateSums x = withRatio(new long[] {1, 1}, new long[] {1});
        int one = x.number(1);
        int n = x.letter();
        due("proves: n n! is the step of n!", () -> x.proves(n, one), true);
        due("proves: n! is not", () -> x.proves(one, n), false);
        due("proves: 0 of 0", () -> x.proves(x.number(0), x.number(0)), true);
        due("proves: 0 of 1", () -> x.proves(x.number(0), one), false);
        int twice = x.times(n, x.number(2));
        due("proves: twice it is not", () -> x.proves(twice, one), false);
        due("proves: not what it takes, but 1 more", () -> x.proves(x.add(n, one), one), false);
        due("proves: no first", () -> x.proves(40, one), NONE);
        due("proves: no second", () -> x.proves(one, 40), NONE);
        int had = x.count();
        due("proves: none are made", () -> x.proves(n, one) ? x.count() : -1, had);
        x.ratio(false, 0, 0);
        due("proves: B is 0", () -> x.proves(n, one), ZERO);
        due("proves: none, and B is 0", () -> x.proves(40, one), NONE);
        CertificateSums full = filled();
        due("proves: when 50 are there", () -> full.proves(0, 3), true);
    }

    private static void find() {
        CertificateSums x = new CertificateSums();
        int one = x.number(1);
        int n = x.letter();
        int zero = x.number(0);
        due("find: n has none with 1", () -> x.find(n, one, 1), -1);
        due("find: none is made", x::count, 3);
        due("find: of n with 2", () -> x.find(n, one, 2), 3);
        due("find: n (n - 1) / 2", () -> text(x, 3), "0 16001 16002 / 1");
        due("find: with 8, the same", () -> text(x, x.find(n, one, 8)), "0 16001 16002 / 1");
        due("find: of 0", () -> text(x, x.find(zero, n, 0)), "0 / 1");
        int overN = x.over(one, n);
        int grows = x.step(overN);
        due("find: -1/(n (n + 1)) over n", () -> text(x, x.find(grows, n, 0)), "1 / 0 1");
        due("find: just q's TOP counts", () -> text(x, x.find(n, overN, 2)), "0 16001 16002 / 1");
        int doubled = x.number(2);
        due("find: in lowest terms", () -> text(x, x.find(n, doubled, 2)), "0 16001 16002 / 1");
        due("find: 1/n has none", () -> x.find(overN, n, 8), -1);
        due("find: q is 0", () -> x.find(n, zero, 2), ZERO);
        due("find: d is 9", () -> x.find(n, one, 9), WRONG);
        due("find: d is -1", () -> x.find(n, one, -1), WRONG);
        due("find: d is the least int", () -> x.find(n, one, Integer.MIN_VALUE), WRONG);
        due("find: no r", () -> x.find(-1, one, 2), NONE);
        due("find: no q", () -> x.find(n, 50, 2), NONE);
        x.ratio(false, 0, 0);
        due("find: B is 0", () -> x.find(n, one, 2), ZERO);
    }

    private static void plainOne() {
        CertificateSums x = new CertificateSums();
        int one = x.number(1);
        int n = x.letter();
        int grows = x.step(x.over(one, n));
        // y = c n is a certificate of 0 over n, so the power 1 is free, and 0 in the plain one.
        due("plain: over n with 2", () -> text(x, x.find(grows, n, 2)), "1 / 0 1");
        int square = x.times(n, n);
        int shifted = x.add(square, n);
        // Over n^2 + n the certificates of 0 are its multiples: the power 2 is free, and not 1.
        int cubeSum = x.step(x.over(x.number(3), shifted));
        due("plain: over n (n + 1)", () -> text(x, x.find(cubeSum, shifted, 8)), "3 / 0 1 1");
        int all = x.step(x.add(x.over(one, shifted), one));
        due("plain: what is free is left out", () -> text(x, x.find(all, shifted, 8)), "1 / 0 1 1");
        // n / (n + 1) = 1 - 1/(n + 1), so over n + 1 the plain one is -1 through n + 1.
        int next = x.add(n, one);
        int partly = x.step(x.over(n, next));
        due("plain: over n + 1", () -> text(x, x.find(partly, next, 1)), "32002 / 1 1");
    }

    private static void least() {
        CertificateSums x = new CertificateSums();
        int one = x.number(1);
        int n = x.letter();
        int zero = x.number(0);
        due("least: 0", () -> x.least(zero, n), 0);
        due("least: 1", () -> x.least(one, one), 1);
        due("least: n", () -> x.least(n, one), 2);
        due("least: 1 over n", () -> x.least(one, n), 2);
        int seventh = polynomial(x, 0, 0, 0, 0, 0, 0, 0, 1);
        due("least: n^7", () -> x.least(seventh, one), 8);
        due("least: n^8", () -> x.least(x.times(seventh, n), one), -1);
        due("least: n^7 over n", () -> x.least(seventh, n), -1);
        int had = x.count();
        due("least: q is 0", () -> x.least(n, zero), ZERO);
        due("least: no r", () -> x.least(had, zero), NONE);
        due("least: no q", () -> x.least(n, -1), NONE);
        x.ratio(false, 0, 0);
        due("least: B is 0", () -> x.least(n, one), ZERO);
        due("least: none are made", x::count, had);
        CertificateSums full = filled();
        due("least: when 50 are there", () -> full.least(2, 1), 1);
    }

    private static void free() {
        CertificateSums x = new CertificateSums();
        int one = x.number(1);
        int n = x.letter();
        int zero = x.number(0);
        due("free: over 1 with 0", () -> x.free(one, 0), 1);
        due("free: over 1 with 8", () -> x.free(one, 8), 1);
        due("free: over n with 0", () -> x.free(n, 0), 0);
        due("free: over n with 1", () -> x.free(n, 1), 1);
        due("free: just q's TOP counts", () -> x.free(x.over(one, n), 0), 1);
        due("free: q is 0", () -> x.free(zero, 2), ZERO);
        due("free: d is 9", () -> x.free(one, 9), WRONG);
        due("free: d is -1", () -> x.free(one, -1), WRONG);
        due("free: q is 0 and d is 9", () -> x.free(zero, 9), ZERO);
        due("free: no q", () -> x.free(-1, 9), NONE);
        x.ratio(true, 0, 2);
        due("free: with the ratio 2", () -> x.free(one, 8), 0);
        x.ratio(true, 0, 0);
        due("free: with A 0", () -> x.free(one, 8), 0);
        x.ratio(false, 0, 0);
        due("free: B is 0", () -> x.free(one, 2), ZERO);
        // h = 1/n^2, so that n^2 times h is a number: the power 2 is free over 1.
        CertificateSums y = withRatio(new long[] {0, 0, 1}, new long[] {1, 2, 1});
        due("free: n^2/(n + 1)^2 with 1", () -> y.free(y.number(1), 1), 0);
        due("free: n^2/(n + 1)^2 with 2", () -> y.free(y.number(1), 2), 1);
        CertificateSums full = filled();
        due("free: when 50 are there", () -> full.free(1, 8), 1);
    }

    private static void degreeAndAt() {
        CertificateSums x = new CertificateSums();
        int f = x.over(polynomial(x, 1, 2, 3), polynomial(x, 5, 0, 0, 1));
        int zero = x.number(0);
        due("degree: TOP", () -> x.degree(f, true), 2);
        due("degree: BOTTOM", () -> x.degree(f, false), 3);
        due("degree: of 0", () -> x.degree(zero, true), -1);
        due("degree: BOTTOM of 0", () -> x.degree(zero, false), 0);
        due("degree: none", () -> x.degree(-1, true), NONE);
        due("degree: none", () -> x.degree(x.count(), false), NONE);
        due("at: TOP", () -> x.at(f, true, 2), 3);
        due("at: BOTTOM", () -> x.at(f, false, 0), 5);
        due("at: BOTTOM of 0", () -> x.at(zero, false, 0), 1);
        for (int power : new int[] {-1, 3, 20, 21, 63, 64, Integer.MIN_VALUE, Integer.MAX_VALUE}) {
            due("at: power " + power, () -> x.at(f, true, power), 0);
        }
        due("at: none", () -> x.at(-1, true, 0), NONE);
        due("at: none", () -> x.at(x.count(), true, -1), NONE);
    }

    private static void value() {
        CertificateSums x = new CertificateSums();
        int f = x.over(polynomial(x, 1, 2), polynomial(x, -3, 1));
        due("value: 9/1", () -> x.value(f, 4), 9);
        due("value: where the BOTTOM is 0", () -> x.value(f, 3), -1);
        due("value: and 32003 on", () -> x.value(f, 32006), -1);
        due("value: and 32003 back", () -> x.value(f, -32000), -1);
        due("value: 1/-3", () -> x.value(f, 0), 21335);
        due("value: of 0", () -> x.value(x.number(0), 7), 0);
        due("value: where the TOP is 0", () -> x.value(x.letter(), 32003), 0);
        due("value: at the least long", () -> x.value(x.letter(), Long.MIN_VALUE),
                Math.floorMod(Long.MIN_VALUE, 32003L));
        due("value: at the greatest long", () -> x.value(x.letter(), Long.MAX_VALUE),
                Long.MAX_VALUE % 32003);
        due("value: none", () -> x.value(-1, 4), NONE);
    }

    private static void same() {
        CertificateSums x = new CertificateSums();
        int n = x.letter();
        int one = x.number(1);
        int overN = x.over(one, n);
        due("same: itself", () -> x.same(n, n), true);
        due("same: made otherwise", () -> x.same(n, x.over(one, overN)), true);
        due("same: another TOP", () -> x.same(n, x.add(n, one)), false);
        due("same: another TOP at the power 1", () -> x.same(n, x.add(n, n)), false);
        due("same: another BOTTOM", () -> x.same(one, overN), false);
        due("same: 32004 and 1", () -> x.same(one, x.number(32004)), true);
        due("same: no first", () -> x.same(40, n), NONE);
        due("same: no second", () -> x.same(n, -1), NONE);
    }

    private static void count() {
        CertificateSums x = new CertificateSums();
        x.number(3);
        x.letter();
        due("count: 2", x::count, 2);
        due("count: 2 again", x::count, 2);
        due("count: the third handle", () -> x.add(0, 1), 2);
        due("count: 50", () -> filled().count(), 50);
    }

    private static void tooGreat() {
        CertificateSums x = new CertificateSums();
        int n = x.letter();
        int five = polynomial(x, 0, 0, 0, 0, 0, 1);
        int ten = x.times(five, five);
        int twenty = x.times(ten, ten);
        int one = x.number(1);
        int under = x.over(one, twenty);
        int had = x.count();
        due("too great: n^21", () -> x.times(twenty, n), FULL);
        due("too great: 1/n^21", () -> x.times(under, x.over(one, n)), FULL);
        due("too great: over", () -> x.over(under, n), FULL);
        due("too great: a sum", () -> x.add(under, n), FULL);
        due("too great: a step", () -> x.step(under), FULL);
        due("too great: just 1/n was made", x::count, had + 1);
        due("not too great: cancelled", () -> text(x, x.times(twenty, under)), "1 / 1");
        due("not too great: moved", () -> x.at(x.moved(twenty), true, 10), 184756 % 32003);
        due("not too great: a step", () -> x.degree(x.step(twenty), true), 19);
        due("too great, but looked at", () -> x.proves(under, under), false);
        due("find over the greatest", () -> text(x, x.find(x.step(one), twenty, 8)), "0 / 1");
        x.ratio(true, 1, 1);
        due("too great: a step with n + 1", () -> x.step(twenty), FULL);
    }

    /** n (n + 1) .. , as many factors as said. */
    private static int rising(CertificateSums x, int factors) {
        int factor = x.letter();
        int product = factor;
        for (int k = 1; k < factors; k++) {
            factor = x.moved(factor);
            product = x.times(product, factor);
        }
        return product;
    }

    private static void greatest() {
        CertificateSums x = new CertificateSums();
        int b = rising(x, 20);
        int f = x.over(x.number(3), b);
        due("greatest: a sum over one BOTTOM", () -> x.same(x.add(f, f), x.over(x.number(6), b)), true);
        int moved = x.moved(b);
        int g = x.over(b, moved);
        due("greatest: b through MOVED b", () -> text(x, g), "0 1 / 20 1");
        due("greatest: least over itself", () -> x.least(b, b), -1);
        x.ratio(false, 3, 1);
        due("greatest: least with B of degree 3", () -> x.least(b, b), -1);
        due("greatest: proves", () -> x.proves(f, f), false);
    }

    private static void greatestStep() {
        // A through B is (n + 20)/n, with n^2 + 1 times both; so the step of t/b is (MOVED t - t)/b.
        CertificateSums x = withRatio(new long[] {20, 1, 20, 1}, new long[] {0, 1, 0, 1});
        int b = rising(x, 20);
        int t = x.add(0, x.number(-1));
        int t2 = x.times(t, t);
        int t4 = x.times(t2, t2);
        int t5 = x.times(t4, t);
        int t10 = x.times(t5, t5);
        int t20 = x.times(t10, t10);
        int f = x.over(t20, b);
        int step = x.step(f);
        due("greatest: the step's TOP", () -> x.degree(step, true), 19);
        due("greatest: the step's BOTTOM", () -> part(x, step, false), part(x, b, true));
        due("greatest: the step's value", () -> x.value(step, 5) * (long) x.value(b, 5) % 32003,
                Math.floorMod((long) x.value(t20, 6) - x.value(t20, 5), 32003L));
        due("greatest: proves", () -> x.proves(step, f), true);
        due("greatest: does not prove", () -> x.proves(f, f), false);
    }

    private static void greatestFind() {
        // A and B are the same, of degree 3: the step is as with 1.
        CertificateSums x = withRatio(new long[] {7, 5, 3, 2}, new long[] {7, 5, 3, 2});
        int q = rising(x, 19);
        int square = x.times(0, 0);
        int fourth = x.times(square, square);
        int y = x.times(fourth, fourth);
        int f = x.over(x.add(y, x.number(1)), q);
        int r = x.step(f);
        due("greatest: r's BOTTOM", () -> x.degree(r, false), 20);
        due("greatest: least", () -> x.least(r, q), 8);
        due("greatest: find with 7", () -> x.find(r, q, 7), -1);
        due("greatest: find with 8", () -> x.same(x.find(r, q, 8), f), true);
        due("greatest: free", () -> x.free(q, 8), 0);
    }

    private static void full() {
        CertificateSums x = filled();
        due("full: number", () -> x.number(1), FULL);
        due("full: letter", x::letter, FULL);
        due("full: add", () -> x.add(1, 2), FULL);
        due("full: times", () -> x.times(1, 2), FULL);
        due("full: over", () -> x.over(1, 2), FULL);
        due("full: moved", () -> x.moved(1), FULL);
        due("full: step", () -> x.step(1), FULL);
        due("full: find", () -> x.find(0, 1, 2), FULL);
        due("full: find of what has none", () -> x.find(1, 1, 0), FULL);
        due("full: none are made", x::count, 50);
        due("full: the last is there", () -> text(x, 49), "49 / 1");
        due("full: none behind it", () -> x.degree(50, true), NONE);
    }

    private static void orderOfExceptions() {
        CertificateSums x = filled();
        due("order: add", () -> x.add(50, 0), NONE);
        due("order: times", () -> x.times(0, 50), NONE);
        due("order: over, none", () -> x.over(50, 0), NONE);
        due("order: over, 0", () -> x.over(1, 0), ZERO);
        due("order: moved", () -> x.moved(50), NONE);
        due("order: find, d", () -> x.find(1, 1, 9), WRONG);
        due("order: find, q is 0", () -> x.find(1, 0, 9), ZERO);
        due("order: find, none", () -> x.find(50, 0, 9), NONE);
        x.ratio(false, 0, 0);
        due("order: step, B", () -> x.step(1), ZERO);
        due("order: step, none", () -> x.step(50), NONE);
        due("order: find, B", () -> x.find(1, 1, 9), ZERO);
        due("order: free, B", () -> x.free(1, 9), ZERO);
        due("order: free, none", () -> x.free(50, 9), NONE);
        due("order: least, B", () -> x.least(1, 1), ZERO);
        due("order: least, none", () -> x.least(50, 0), NONE);
        due("order: proves, none", () -> x.proves(50, 0), NONE);
    }

    private static void zeroTop() {
        CertificateSums x = withRatio(new long[] {0}, new long[] {1});
        int n = x.letter();
        due("A 0: find", () -> text(x, x.find(n, x.number(1), 1)), "0 32002 / 1");
        due("A 0: least", () -> x.least(n, n), 2);
        due("A 0: least of 1/n over n", () -> x.least(x.over(x.number(1), n), n), 0);
    }
}
