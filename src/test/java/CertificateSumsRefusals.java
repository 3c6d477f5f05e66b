import java.util.ArrayList;
import java.util.List;

/**
 * Every refused call: which exception it throws, which one when several are due, and that nothing has
 * changed behind it. Each call is made on an object of its own, which is then held against another
 * that was made in the same way and never saw the call.
 */
public final class CertificateSumsRefusals extends Checks {
    private static final int[] WRONG_BOUNDS = {-1, 9, Integer.MIN_VALUE, Integer.MAX_VALUE};
    private static final int[] WRONG_POWERS = {-1, 4, Integer.MIN_VALUE, Integer.MAX_VALUE};
    private static final int[] ALL_BOUNDS = {0, 8, -1, 9, Integer.MIN_VALUE, Integer.MAX_VALUE};

    private static final long[] A = {3, 0, 0, 2};
    private static final long[] B = {5, 1, 0, 7};
    private static final long[] B_ZERO = {0, 0, 0, 0};

    private static final Start NEW = new Start("new", A, B, 0, false);
    private static final Start FEW = new Start("few", A, B, 5, false);
    private static final Start FEW_B_ZERO = new Start("few, B is 0", A, B_ZERO, 5, false);
    private static final Start LAST = new Start("49", A, B, 49, false);
    private static final Start FULL_UP = new Start("50", A, B, 50, false);
    private static final Start FULL_UP_B_ZERO = new Start("50, B is 0", A, B_ZERO, 50, false);
    private static final Start GREAT =
            new Start("great", new long[] {0, 1, 0, 0}, new long[] {1, 0, 0, 0}, 0, true);
    private static final Start GREAT_B_ZERO =
            new Start("great, B is 0", new long[] {0, 1, 0, 0}, B_ZERO, 0, true);

    private static final Start[] ALL = {
        NEW, FEW, FEW_B_ZERO, LAST, FULL_UP, FULL_UP_B_ZERO, GREAT, GREAT_B_ZERO
    };
    private static final Start[] B_IS_ZERO = {FEW_B_ZERO, FULL_UP_B_ZERO, GREAT_B_ZERO};
    private static final Start[] B_IS_NOT_ZERO = {FEW, LAST, FULL_UP, GREAT};

    private interface On {
        Object answer(CertificateSums x);
    }

    /**
     * A state to begin from. Where functions are there, 0 is the function 0, 1 is 1, 2 is n, 3 is n + 1
     * and 4 is n through n + 1; numbers follow.
     */
    private static final class Start {
        final String name;
        final long[] a;
        final long[] b;
        final int functions;
        final boolean great;

        Start(String name, long[] a, long[] b, int functions, boolean great) {
            this.name = name;
            this.a = a;
            this.b = b;
            this.functions = functions;
            this.great = great;
        }

        CertificateSums make() {
            CertificateSums x = withRatio(a, b);
            if (functions > 0 || great) {
                x.number(0);
                x.number(1);
                x.letter();
                x.add(1, 2);
                x.over(2, 3);
            }
            if (great) {
                makeGreat(x);
            }
            while (x.count() < functions) {
                x.number(x.count());
            }
            return x;
        }

        /** 9 is n^20, 10 is 1 through n^20, 11 is 1 through n, 12 is 1 through n + 1. */
        private static void makeGreat(CertificateSums x) {
            x.times(2, 2);
            x.times(5, 5);
            x.times(6, 2);
            x.times(7, 7);
            x.times(8, 8);
            x.over(1, 9);
            x.over(1, 2);
            x.over(1, 3);
        }

        /** All that can be seen of an object that came from here, and what it answers next. */
        String seen(CertificateSums x) {
            int count = x.count();
            StringBuilder seen = new StringBuilder("count ").append(count);
            for (int f = 0; f < count; f++) {
                seen.append("; ").append(text(x, f));
            }
            seen.append("; none ").append(tried(() -> x.degree(count, true)));
            for (int k = 0; k < 4; k++) {
                seen.append("; ").append(x.ratio(true, k, a[k])).append(x.ratio(false, k, b[k]));
            }
            seen.append("; next ").append(tried(() -> x.number(77)));
            seen.append("; step ").append(tried(() -> text(x, x.step(4))));
            seen.append("; find ").append(tried(() -> text(x, x.find(0, 4, 3))));
            seen.append("; least ").append(tried(() -> x.least(2, 1)));
            return seen.append("; free ").append(tried(() -> x.free(3, 8))).toString();
        }
    }

    private static Object tried(Call call) {
        try {
            return call.answer();
        } catch (IndexOutOfBoundsException | ArithmeticException | IllegalStateException e) {
            return e.getClass().getSimpleName();
        }
    }

    private static void refused(Start start, String what, On call, String exception) {
        CertificateSums x = start.make();
        String whole = start.name + ": " + what;
        due(whole, () -> call.answer(x), exception);
        due(whole + ", and behind it", () -> start.seen(x), start.seen(start.make()));
        CertificateSums twice = start.make();
        due(whole, () -> call.answer(twice), exception);
        due(whole + ", again", () -> call.answer(twice), exception);
    }

    public static void main(String[] args) {
        noSuchFunction();
        noSuchFunctionAmongTwo();
        noSuchFunctionFirst();
        divisorIsZero();
        ratioBottomIsZero();
        baseIsZero();
        boundIsWrong();
        powerIsWrong();
        fiftyAreThere();
        tooGreat();
        tooGreatAndMore();
        finish();
    }

    private static List<Integer> wrongHandles(Start start) {
        int count = start.make().count();
        List<Integer> handles = new ArrayList<>(
                List.of(-1, count, count + 1, 50, Integer.MIN_VALUE, Integer.MAX_VALUE));
        if (count < 49) {
            handles.add(49);
        }
        return handles;
    }

    /** "IndexOutOfBoundsException: no such function." */
    private static void noSuchFunction() {
        for (Start start : ALL) {
            for (int f : wrongHandles(start)) {
                refused(start, "moved " + f, x -> x.moved(f), NONE);
                refused(start, "step " + f, x -> x.step(f), NONE);
                refused(start, "degree of TOP " + f, x -> x.degree(f, true), NONE);
                refused(start, "degree of BOTTOM " + f, x -> x.degree(f, false), NONE);
                refused(start, "at in TOP " + f, x -> x.at(f, true, 0), NONE);
                refused(start, "at in BOTTOM " + f, x -> x.at(f, false, -1), NONE);
                refused(start, "value " + f, x -> x.value(f, 3), NONE);
                refused(start, "free " + f, x -> x.free(f, 8), NONE);
            }
        }
    }

    /** Where two functions are asked for, either may be the one that there is not. */
    private static void noSuchFunctionAmongTwo() {
        for (Start start : ALL) {
            for (int f : wrongHandles(start)) {
                for (int[] pair : new int[][] {{f, 1}, {1, f}, {f, f}}) {
                    int g = pair[0];
                    int h = pair[1];
                    String two = " " + g + " " + h;
                    refused(start, "add" + two, x -> x.add(g, h), NONE);
                    refused(start, "times" + two, x -> x.times(g, h), NONE);
                    refused(start, "over" + two, x -> x.over(g, h), NONE);
                    refused(start, "proves" + two, x -> x.proves(g, h), NONE);
                    refused(start, "same" + two, x -> x.same(g, h), NONE);
                    refused(start, "least" + two, x -> x.least(g, h), NONE);
                    refused(start, "find" + two, x -> x.find(g, h, 8), NONE);
                }
            }
        }
    }

    /** IndexOutOfBoundsException stands first: also when q or g is 0, d is wrong and 50 are there. */
    private static void noSuchFunctionFirst() {
        for (Start start : ALL) {
            for (int f : wrongHandles(start)) {
                refused(start, "over 0, none " + f, x -> x.over(f, 0), NONE);
                refused(start, "least over 0, none " + f, x -> x.least(f, 0), NONE);
                for (int d : WRONG_BOUNDS) {
                    refused(start, "find over 0 with " + d + ", none " + f, x -> x.find(f, 0, d), NONE);
                    refused(start, "find over none " + f + " with " + d, x -> x.find(0, f, d), NONE);
                    refused(start, "free over none " + f + " with " + d, x -> x.free(f, d), NONE);
                }
            }
        }
    }

    /** "ArithmeticException: g is 0", before IllegalStateException, whatever B is. */
    private static void divisorIsZero() {
        for (Start start : ALL) {
            if (start != NEW) {
                refused(start, "0 over 0", x -> x.over(0, 0), ZERO);
                refused(start, "1 over 0", x -> x.over(1, 0), ZERO);
                refused(start, "n / (n + 1) over 0", x -> x.over(4, 0), ZERO);
            }
        }
    }

    /** "ArithmeticException: B is 0", and it stands before what is wrong with d or with the room. */
    private static void ratioBottomIsZero() {
        for (Start start : B_IS_ZERO) {
            for (int f = 0; f < 5; f++) {
                int g = f;
                refused(start, "step " + g, x -> x.step(g), ZERO);
                refused(start, "proves 0 " + g, x -> x.proves(0, g), ZERO);
                refused(start, "proves " + g + " 1", x -> x.proves(g, 1), ZERO);
                refused(start, "least 0 over " + g, x -> x.least(0, g), ZERO);
                refused(start, "least " + g + " over 1", x -> x.least(g, 1), ZERO);
                for (int d : ALL_BOUNDS) {
                    refused(start, "find 0 over " + g + " with " + d, x -> x.find(0, g, d), ZERO);
                    refused(start, "find " + g + " over 1 with " + d, x -> x.find(g, 1, d), ZERO);
                    refused(start, "free over " + g + " with " + d, x -> x.free(g, d), ZERO);
                }
            }
        }
    }

    /** "ArithmeticException: q .. is 0", and it stands before what is wrong with d or with the room. */
    private static void baseIsZero() {
        for (Start start : B_IS_NOT_ZERO) {
            for (int f = 0; f < 5; f++) {
                int r = f;
                refused(start, "least " + r + " over 0", x -> x.least(r, 0), ZERO);
                for (int d : ALL_BOUNDS) {
                    refused(start, "find " + r + " over 0 with " + d, x -> x.find(r, 0, d), ZERO);
                }
            }
            for (int d : ALL_BOUNDS) {
                refused(start, "free over 0 with " + d, x -> x.free(0, d), ZERO);
            }
        }
    }

    /** "IllegalArgumentException: d isn't 0 .. 8", before IllegalStateException. */
    private static void boundIsWrong() {
        for (Start start : B_IS_NOT_ZERO) {
            for (int d : WRONG_BOUNDS) {
                refused(start, "find 0 over 1 with " + d, x -> x.find(0, 1, d), WRONG);
                refused(start, "find 2 over 4 with " + d, x -> x.find(2, 4, d), WRONG);
                refused(start, "free over 1 with " + d, x -> x.free(1, d), WRONG);
                refused(start, "free over 4 with " + d, x -> x.free(4, d), WRONG);
            }
        }
    }

    /** "IllegalArgumentException: the power isn't 0 .. 3", also where the number would be the same. */
    private static void powerIsWrong() {
        for (Start start : ALL) {
            for (int power : WRONG_POWERS) {
                for (long v : new long[] {0, 1, -1, 32003, Long.MIN_VALUE, Long.MAX_VALUE}) {
                    String what = "ratio at " + power + " " + v;
                    refused(start, what + " in A", x -> x.ratio(true, power, v), WRONG);
                    refused(start, what + " in B", x -> x.ratio(false, power, v), WRONG);
                }
            }
        }
    }

    /** "IllegalStateException: 50 are there", for everything that would make one more. */
    private static void fiftyAreThere() {
        for (Start start : new Start[] {FULL_UP, FULL_UP_B_ZERO}) {
            refused(start, "number", x -> x.number(1), FULL);
            refused(start, "number 0", x -> x.number(32003), FULL);
            refused(start, "letter", x -> x.letter(), FULL);
            refused(start, "add", x -> x.add(2, 4), FULL);
            refused(start, "times", x -> x.times(2, 4), FULL);
            refused(start, "over", x -> x.over(2, 4), FULL);
            refused(start, "moved", x -> x.moved(49), FULL);
        }
        refused(FULL_UP, "step", x -> x.step(49), FULL);
        refused(FULL_UP, "find of 0", x -> x.find(0, 1, 8), FULL);
        // "it is looked for when there is room for one more", so that none is answered here with -1.
        refused(FULL_UP, "find of what has none", x -> x.find(1, 1, 0), FULL);
    }

    /** "IllegalStateException: .. the new one is TOO GREAT", by its TOP, its BOTTOM or both. */
    private static void tooGreat() {
        for (Start start : new Start[] {GREAT, GREAT_B_ZERO}) {
            refused(start, "n^20 times n", x -> x.times(9, 2), FULL);
            refused(start, "n^20 times n^20", x -> x.times(9, 9), FULL);
            refused(start, "1/n^20 times 1/n", x -> x.times(10, 11), FULL);
            refused(start, "1/n^20 times 1/n^20", x -> x.times(10, 10), FULL);
            refused(start, "n^20 over 1/n", x -> x.over(9, 11), FULL);
            refused(start, "n^20 over 1/n^20", x -> x.over(9, 10), FULL);
            refused(start, "1/n^20 over n", x -> x.over(10, 2), FULL);
            refused(start, "1/n^20 over n^20", x -> x.over(10, 9), FULL);
            refused(start, "n^20 plus 1/n", x -> x.add(9, 11), FULL);
            refused(start, "1/n plus n^20", x -> x.add(11, 9), FULL);
            refused(start, "1/n^20 plus 1/(n + 1)", x -> x.add(10, 12), FULL);
            refused(start, "n^20 plus 1/n^20", x -> x.add(9, 10), FULL);
        }
        refused(GREAT, "step of n^20 with n", x -> x.step(9), FULL);
        refused(GREAT, "step of 1/n^20 with n", x -> x.step(10), FULL);
    }

    /** What would be TOO GREAT is refused for what stands before it, where that is due too. */
    private static void tooGreatAndMore() {
        refused(GREAT_B_ZERO, "step of n^20", x -> x.step(9), ZERO);
        refused(GREAT_B_ZERO, "step of 1/n^20", x -> x.step(10), ZERO);
        refused(GREAT, "n^20 over 0", x -> x.over(9, 0), ZERO);
        refused(GREAT, "n^20 times none", x -> x.times(9, 13), NONE);
        refused(GREAT, "none plus 1/n^20", x -> x.add(13, 10), NONE);
    }
}
