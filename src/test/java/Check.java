/** Compares answers and exceptions with those that are due, and ends the test with code 1 if one was wrong. */
final class Check {
    static final Class<? extends RuntimeException> MISSING = java.util.NoSuchElementException.class;
    static final Class<? extends RuntimeException> ARGUMENT = IllegalArgumentException.class;
    static final Class<? extends RuntimeException> STATE = IllegalStateException.class;
    static final Class<? extends RuntimeException> ROOM = UnsupportedOperationException.class;

    interface Call {
        void go();
    }

    private final String test;
    private int checks;
    private int wrong;

    Check(String test) {
        this.test = test;
    }

    void due(String call, long got, long want) {
        checks++;
        if (got != want) {
            fail(call + " answered " + got + ", due is " + want);
        }
    }

    void refused(Class<? extends RuntimeException> want, String what, Call call) {
        checks++;
        Class<?> got = null;
        try {
            call.go();
        } catch (RuntimeException e) {
            got = e.getClass();
        }
        if (got != want) {
            fail(what + " threw " + got + ", due is " + want);
        }
    }

    void fail(String what) {
        wrong++;
        System.out.println(test + ": " + what);
    }

    void end() {
        System.out.println(test + ": " + checks + " checks, " + wrong + " wrong");
        if (wrong != 0) {
            System.exit(1);
        }
    }

    static void signAll(KitRows x, String text) {
        for (int i = 0; i < text.length(); i++) {
            x.sign(text.charAt(i));
        }
    }

    static int read(KitRows x, String text) {
        signAll(x, text);
        return x.read();
    }

    /** Makes all steps that are left and ends the making: its unit's number. */
    static int finish(KitRows x, int making) {
        for (int n = x.making(making, 3) + 1; x.done(making) < 0; n++) {
            if (x.step(making, n, true) != 1) {
                throw new AssertionError("making " + making + " lacks pieces for step " + n);
            }
        }
        return x.making(making, 6);
    }
}
