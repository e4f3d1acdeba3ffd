/** Counts the answers that are not as due, for the tests of the project. */
final class Due {
    /** A call of the class under test. */
    interface Call {
        long make();
    }

    private int wrong = 0;
    private int checked = 0;

    void same(String what, long got, long want) {
        checked++;
        if (got != want) {
            miss(what + " answered " + got + ", due is " + want);
        }
    }

    void same(String what, double got, double want) {
        checked++;
        if (Double.compare(got, want) != 0) {
            miss(what + " answered " + got + ", due is " + want);
        }
    }

    /** The call must throw just this exception, and leave the state as it is. */
    void refused(String what, EaseCurves x, Class<? extends RuntimeException> want, Call call) {
        long before = x.digest();
        thrown(what, want, call);
        same(what + " leaves the digest", x.digest(), before);
    }

    /** The call must throw just this exception. */
    void thrown(String what, Class<? extends RuntimeException> want, Call call) {
        checked++;
        try {
            long got = call.make();
            miss(what + " answered " + got + ", due is " + want.getSimpleName());
        } catch (RuntimeException e) {
            if (e.getClass() != want) {
                miss(what + " threw " + e + ", due is " + want.getSimpleName());
            }
        }
    }

    /** The call must answer this, and throw nothing. */
    void answered(String what, long want, Call call) {
        try {
            same(what, call.make(), want);
        } catch (RuntimeException e) {
            miss(what + " threw " + e + ", due is " + want);
        }
    }

    void miss(String message) {
        wrong++;
        System.out.println(message);
    }

    void end() {
        System.out.println(checked + " checks, " + wrong + " wrong");
        if (wrong != 0) {
            System.exit(1);
        }
    }
}
