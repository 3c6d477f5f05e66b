/** What the tests share: answers held against what is due, and functions written as texts. */
abstract class Checks {
    static final String NONE = "throws.IndexOutOfBoundsException";
    static final String ZERO = "throws.ArithmeticException";
    static final String WRONG = "throws.IllegalArgumentException";
    static final String FULL = "throws.IllegalStateException";

    private static int wrong = 0;

    interface Call {
        Object answer();
    }

    static void due(String what, Call call, Object want) {
        String got;
        try {
            got = String.valueOf(call.answer());
        } catch (RuntimeException e) {
            got = "throws." + e.getClass().getSimpleName();
        }
        if (!got.equals(String.valueOf(want))) {
            wrong++;
            System.out.println(what + " answered " + got + ", due is " + want);
        }
    }

    static void finish() {
        System.out.println(wrong == 0 ? "all answers are as due" : wrong + " answers are not as due");
        if (wrong != 0) {
            System.exit(1);
        }
    }

    /** A polynomial as a function, its numbers from the power 0 up. */
    static int polynomial(CertificateSums x, long... numbers) {
        int n = x.letter();
        int sum = x.number(0);
        for (int k = numbers.length - 1; k >= 0; k--) {
            sum = x.times(sum, n);
            sum = x.add(sum, x.number(numbers[k]));
        }
        return sum;
    }

    static String text(CertificateSums x, int f) {
        return part(x, f, true) + " / " + part(x, f, false);
    }

    static String part(CertificateSums x, int f, boolean top) {
        int degree = x.degree(f, top);
        StringBuilder text = new StringBuilder(degree < 0 ? "0" : "");
        for (int k = 0; k <= degree; k++) {
            text.append(k == 0 ? "" : " ").append(x.at(f, top, k));
        }
        return text.toString();
    }

    static CertificateSums withRatio(long[] a, long[] b) {
        CertificateSums x = new CertificateSums();
        for (int k = 0; k < 4; k++) {
            x.ratio(true, k, k < a.length ? a[k] : 0);
            x.ratio(false, k, k < b.length ? b[k] : 0);
        }
        return x;
    }

    static CertificateSums filled() {
        CertificateSums x = new CertificateSums();
        for (int k = 0; k < 50; k++) {
            x.number(k);
        }
        return x;
    }
}
