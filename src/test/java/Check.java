/** Counts what the tests find; a test goes on behind a wrong answer. */
final class Check {
    static final Class<?> NO_SUCH = java.util.NoSuchElementException.class;
    static final Class<?> ARGUMENT = IllegalArgumentException.class;
    static final Class<?> STATE = IllegalStateException.class;
    static final Class<?> INDEX = IndexOutOfBoundsException.class;
    static final Class<?> ARITHMETIC = ArithmeticException.class;

    private static String test = "";
    private static int made = 0;
    private static int wrong = 0;

    interface Call {
        void run();
    }

    interface Question {
        Object ask();
    }

    private Check() {
    }

    static void test(String name, Call body) {
        test = name;
        try {
            body.run();
        } catch (RuntimeException e) {
            report("threw " + e);
        }
    }

    static void same(String what, long want, long got) {
        made++;
        if (want != got) {
            report(what + " answered " + got + ", due is " + want);
        }
    }

    static void same(String what, char want, char got) {
        made++;
        if (want != got) {
            report(what + " answered " + got + ", due is " + want);
        }
    }

    static void same(String what, boolean want, boolean got) {
        made++;
        if (want != got) {
            report(what + " answered " + got + ", due is " + want);
        }
    }

    static void same(String what, double want, double got) {
        made++;
        if (want != got) {
            report(what + " answered " + got + ", due is " + want);
        }
    }

    static void same(String what, String want, String got) {
        made++;
        if (!want.equals(got)) {
            report(what + " answered " + got + ", due is " + want);
        }
    }

    /** The call throws this kind and leaves all answers of the sorter as they were. */
    static void refuses(String what, Routepost post, Class<?> kind, Call call) {
        made++;
        String before = Answers.of(post);
        String thrown = "nothing";
        try {
            call.run();
        } catch (RuntimeException e) {
            thrown = isThrownByClass(e) ? e.getClass().getName() : "by the machine or the library " + e;
        }
        if (!thrown.equals(kind.getName())) {
            report(what + " threw " + thrown + ", due is " + kind.getName());
        }
        if (!before.equals(Answers.of(post))) {
            report(what + " was refused and changed something");
        }
    }

    /** The answer of a call as a text, or the name of the exception that it throws. */
    static String outcome(Question question) {
        try {
            return String.valueOf(question.ask());
        } catch (RuntimeException e) {
            return isThrownByClass(e) ? e.getClass().getName() : "by the machine or the library " + e;
        }
    }

    /** An exception that the class throws itself begins in one of its own methods. */
    private static boolean isThrownByClass(RuntimeException thrown) {
        StackTraceElement[] trace = thrown.getStackTrace();
        return trace.length > 0 && trace[0].getClassName().startsWith("Routepost")
                && thrown.getCause() == null && !(thrown instanceof ArrayIndexOutOfBoundsException);
    }

    private static void report(String text) {
        wrong++;
        System.out.println(test + ": " + text);
    }

    static void end() {
        System.out.println(made + " checks, " + wrong + " wrong");
        if (wrong != 0) {
            System.exit(1);
        }
    }
}
