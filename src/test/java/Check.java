/** What the tests share: answers and exceptions that are due, and how a test ends. */
final class Check {
    interface Call {
        long answer();
    }

    private static int wrong;

    private Check() {
    }

    static void same(String what, long got, long want) {
        if (got != want) {
            tell(what + " answered " + got + ", due is " + want);
        }
    }

    static void same(String what, String got, String want) {
        if (!got.equals(want)) {
            tell(what + " answered " + got + ", due is " + want);
        }
    }

    static void refuses(String what, Class<? extends RuntimeException> want, Call call) {
        same(what, outcome(call), "throws " + want.getSimpleName());
    }

    /** The answer of a call as a text, or the exception that it throws. */
    static String outcome(Call call) {
        try {
            return Long.toString(call.answer());
        } catch (RuntimeException e) {
            return "throws " + e.getClass().getSimpleName();
        }
    }

    static void tell(String text) {
        wrong++;
        System.out.println(text);
    }

    static void end() {
        System.out.println(wrong == 0 ? "all is as due" : wrong + " faults");
        if (wrong != 0) {
            System.exit(1);
        }
    }
}
