/** Counts the answers of one test's main method that are as due, and prints those that are not. */
final class Due {
    /** A call that may throw. */
    interface Call {
        void run();
    }

    private static int right = 0;
    private static int wrong = 0;

    private Due() {
    }

    static void is(String what, long got, long want) {
        if (got == want) {
            right++;
        } else {
            wrong++;
            System.out.println(what + " answered " + got + ", due is " + want);
        }
    }

    static void yes(String what, boolean got) {
        is(what, got ? 1 : 0, 1);
    }

    static void no(String what, boolean got) {
        is(what, got ? 1 : 0, 0);
    }

    static void index(String what, Call call) {
        thrown(what, call, IndexOutOfBoundsException.class);
    }

    static void argument(String what, Call call) {
        thrown(what, call, IllegalArgumentException.class);
    }

    static void state(String what, Call call) {
        thrown(what, call, IllegalStateException.class);
    }

    private static void thrown(String what, Call call, Class<?> want) {
        Class<?> got = null;
        try {
            call.run();
        } catch (RuntimeException e) {
            got = isOfItsOwn(e) ? e.getClass() : null;
        }
        if (got == want) {
            right++;
        } else {
            wrong++;
            System.out.println(what + " threw " + (got == null ? "nothing of its own" : got.getName()) + ", due is " + want.getName());
        }
    }

    /** Whether a throw statement of the class made it: the library throws the same ones from its own methods. */
    static boolean isOfItsOwn(Throwable thrown) {
        StackTraceElement[] trace = thrown.getStackTrace();
        return trace.length > 0 && trace[0].getClassName().startsWith("BodySolids");
    }

    static void end() {
        System.out.println(right + " answers as due, " + wrong + " not");
        if (wrong != 0 || right == 0) {
            System.exit(1);
        }
    }
}
