/** Counts the answers of a test that are not the ones that are due, and tells each of them. */
final class Due {
    static final Class<IndexOutOfBoundsException> INDEX = IndexOutOfBoundsException.class;
    static final Class<IllegalArgumentException> ARGUMENT = IllegalArgumentException.class;
    static final Class<IllegalStateException> STATE = IllegalStateException.class;
    static final Class<UnsupportedOperationException> UNSUPPORTED =
            UnsupportedOperationException.class;
    static final int LOW = Integer.MIN_VALUE;
    static final int HIGH = Integer.MAX_VALUE;

    interface Call {
        int go();
    }

    private final String test;
    private int looked;
    private int wrong;

    Due(String test) {
        this.test = test;
    }

    void answer(String what, int got, int want) {
        looked++;
        if (got != want) {
            tell(what + " answered " + got + ", due is " + want);
        }
    }

    void holds(String what, boolean so) {
        looked++;
        if (!so) {
            tell(what + " does not hold");
        }
    }

    void refused(String what, Class<? extends RuntimeException> want, Call call) {
        looked++;
        String got = outcome(call);
        if (!got.equals(want.getName())) {
            tell(what + ": " + got + ", due is " + want.getName());
        }
    }

    /** What a call does, as a text: its answer, or the exception that it throws. */
    static String outcome(Call call) {
        try {
            return Integer.toString(call.go());
        } catch (RuntimeException thrown) {
            return thrown.getClass().getName();
        }
    }

    void end() {
        System.out.println(test + ": " + looked + " looked at, " + wrong + " wrong");
        if (wrong != 0) {
            System.exit(1);
        }
    }

    private void tell(String text) {
        wrong++;
        System.out.println(test + ": " + text);
    }
}
