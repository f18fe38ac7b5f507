/** Counts and prints the answers that are not the ones that are due. */
final class Check {
    private static int wrong = 0;

    private Check() {
    }

    static void same(String what, long got, long due) {
        if (got != due) {
            wrong++;
            System.out.println(what + ": answered " + got + ", due is " + due);
        }
    }

    static void isTrue(String what, boolean got) {
        same(what, got ? 1 : 0, 1);
    }

    /** The call throws just this class, not a class below it. */
    static void refused(String what, Class<? extends RuntimeException> due, Runnable call) {
        Class<?> got = null;
        try {
            call.run();
        } catch (RuntimeException e) {
            got = e.getClass();
        }
        if (got != due) {
            wrong++;
            System.out.println(what + ": threw " + got + ", due is " + due);
        }
    }

    static void allowed(String what, Runnable call) {
        refused(what, null, call);
    }

    static void end() {
        if (wrong != 0) {
            System.exit(1);
        }
    }
}
