/** What the tests share: it compares answers, prints those that are not due, and ends the test. */
final class Check {
    interface Call {
        long go();
    }

    interface Deed {
        void go();
    }

    static final Class<? extends RuntimeException> NO_INDEX = IndexOutOfBoundsException.class;
    static final Class<? extends RuntimeException> BAD_ARGUMENT = IllegalArgumentException.class;
    static final Class<? extends RuntimeException> BAD_STATE = IllegalStateException.class;

    /** Numbers at which a sum or a product with an argument would wrap around. */
    static final int[] FAR = {Integer.MIN_VALUE, Integer.MIN_VALUE + 1, Integer.MAX_VALUE - 1, Integer.MAX_VALUE};

    private static int compared = 0;
    private static int wrong = 0;

    private Check() {
    }

    static void same(String what, long got, long due) {
        compared++;
        if (got != due) {
            tell(what + " answered " + got + ", due is " + due);
        }
    }

    static void same(String what, boolean got, boolean due) {
        same(what, got ? 1 : 0, due ? 1 : 0);
    }

    /** The call is due to throw exactly this class: a subclass would be the machine's own. */
    static void fails(String what, Class<? extends RuntimeException> due, Deed deed) {
        compared++;
        try {
            deed.go();
        } catch (RuntimeException e) {
            if (e.getClass() != due) {
                tell(what + " threw " + e.getClass().getName() + ", due is " + due.getName());
            }
            return;
        }
        tell(what + " threw nothing, due is " + due.getName());
    }

    /** Answers as one number: what the call returned, or a number for the class that it threw. */
    static long outcome(Call call) {
        try {
            return call.go();
        } catch (RuntimeException e) {
            if (e.getClass() == NO_INDEX) {
                return Long.MIN_VALUE;
            }
            if (e.getClass() == BAD_ARGUMENT) {
                return Long.MIN_VALUE + 1;
            }
            if (e.getClass() == BAD_STATE) {
                return Long.MIN_VALUE + 2;
            }
            return Long.MIN_VALUE + 3;
        }
    }

    static int wrongSoFar() {
        return wrong;
    }

    /** A fault that no comparison tells. */
    static void fault(String what) {
        tell(what);
    }

    private static void tell(String text) {
        wrong++;
        if (wrong <= 40) {
            System.out.println(text);
        }
    }

    static void end() {
        System.out.println(compared + " compared, " + wrong + " wrong");
        if (wrong != 0 || compared == 0) {
            System.exit(1);
        }
    }
}
