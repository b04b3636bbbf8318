/** Counts the checks of all tests and tells those that fail. */
final class Check {
    interface Call {
        void run();
    }

    private static int passed = 0;
    private static int failed = 0;

    private Check() {
    }

    static int failed() {
        return failed;
    }

    static String summary() {
        return passed + " passed, " + failed + " failed";
    }

    static void that(String what, boolean holds) {
        if (holds) {
            passed++;
        } else {
            failed++;
            System.out.println("FAILED: " + what);
        }
    }

    static void due(String what, long got, long want) {
        that(what + " answered " + got + ", due is " + want, got == want);
    }

    static void dueDouble(String what, double got, double want) {
        that(what + " answered " + got + ", due is " + want, Double.compare(got, want) == 0);
    }

    /** The call throws just this exception and leaves the object as it was. */
    static void refused(String what, SortsCase x, Class<? extends RuntimeException> want, Call call) {
        long before = x.digest();
        Class<?> got = null;
        try {
            call.run();
        } catch (RuntimeException e) {
            got = e.getClass();
        }
        that(what + " threw " + got + ", due is " + want, got == want);
        due(what + ", digest after it", x.digest(), before);
    }

    static void noIndex(String what, SortsCase x, Call call) {
        refused(what, x, IndexOutOfBoundsException.class, call);
    }

    static void badArgument(String what, SortsCase x, Call call) {
        refused(what, x, IllegalArgumentException.class, call);
    }

    static void badState(String what, SortsCase x, Call call) {
        refused(what, x, IllegalStateException.class, call);
    }
}
