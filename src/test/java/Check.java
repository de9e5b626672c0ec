/** Counts what is not as due; a test ends with exit code 1 if there was something. */
final class Check {
    interface Call {
        void make();
    }

    private static int wrong = 0;

    private Check() {
    }

    static void same(String what, long due, long got) {
        if (due != got) {
            tell(what + " answered " + got + ", due is " + due);
        }
    }

    static void same(String what, String due, String got) {
        if (!due.equals(got)) {
            tell(what + " shows\n  " + got + "\n  due is\n  " + due);
        }
    }

    static void yes(String what, boolean got) {
        if (!got) {
            tell(what + " is false, due is true");
        }
    }

    static void no(String what, boolean got) {
        if (got) {
            tell(what + " is true, due is false");
        }
    }

    static void throwsIndex(String what, Call call) {
        throwsOnly(what, IndexOutOfBoundsException.class, call);
    }

    static void throwsArgument(String what, Call call) {
        throwsOnly(what, IllegalArgumentException.class, call);
    }

    static void throwsState(String what, Call call) {
        throwsOnly(what, IllegalStateException.class, call);
    }

    static void throwsNothing(String what, Call call) {
        throwsOnly(what, null, call);
    }

    private static void throwsOnly(String what, Class<?> due, Call call) {
        Class<?> got = null;
        try {
            call.make();
        } catch (RuntimeException e) {
            got = e.getClass();
        }
        if (got != due) {
            tell(what + " throws " + got + ", due is " + due);
        }
    }

    private static void tell(String text) {
        wrong++;
        if (wrong <= 50) {
            System.out.println(text);
        }
    }

    static void end() {
        if (wrong != 0) {
            System.out.println(wrong + " answers are not as due");
            System.exit(1);
        }
    }
}
