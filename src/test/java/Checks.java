/** Counts what is as due and prints what is not. */
final class Checks {
    /** A call whose answer or exception is looked at. */
    interface Call {
        long answer();
    }

    private static int passed = 0;
    private static int failed = 0;

    private Checks() {
    }

    static void due(String what, long want, long got) {
        judge(want == got, what + " answered " + got + ", due is " + want);
    }

    static void due(String what, boolean want, boolean got) {
        judge(want == got, what + " answered " + got + ", due is " + want);
    }

    /** The very class counts: one below it is a fault, too. */
    static void throwing(String what, Class<? extends RuntimeException> want, Call call) {
        String got;
        try {
            got = "answered " + call.answer();
        } catch (RuntimeException e) {
            got = e.getClass().getName();
        }
        judge(want.getName().equals(got), what + ": " + got + ", due is " + want.getName());
    }

    static void judge(boolean right, String ifWrong) {
        if (right) {
            passed++;
        } else {
            failed++;
            System.out.println("WRONG: " + ifWrong);
        }
    }

    static void end(String name) {
        System.out.println(name + ": " + passed + " checks as due, " + failed + " not");
        if (failed != 0) {
            System.exit(1);
        }
    }
}
