/** Counts what holds and what does not, and prints what does not. */
final class Check {
    interface Call {
        void run();
    }

    private static int passed;
    private static int failed;

    private Check() {
    }

    static void same(String what, long got, long due) {
        tell(got == due, what, String.valueOf(got), String.valueOf(due));
    }

    static void same(String what, boolean got, boolean due) {
        tell(got == due, what, String.valueOf(got), String.valueOf(due));
    }

    static void missing(String what, Call call) {
        thrown(what, call, "IndexOutOfBoundsException");
    }

    static void unfit(String what, Call call) {
        thrown(what, call, "IllegalArgumentException");
    }

    static void refused(String what, Call call) {
        thrown(what, call, "IllegalStateException");
    }

    static void thrown(String what, Call call, String due) {
        tell(nameOf(call).equals(due), what, nameOfLast, due);
    }

    private static String nameOfLast = "";

    private static String nameOf(Call call) {
        nameOfLast = "nothing thrown";
        try {
            call.run();
        } catch (RuntimeException e) {
            nameOfLast = nameOf(e);
        }
        return nameOfLast;
    }

    /** The exception's name, marked if the class did not throw it itself: the machine and the library have to be kept from it. */
    static String nameOf(Throwable thrown) {
        StackTraceElement[] trace = thrown.getStackTrace();
        boolean own = trace.length > 0 && trace[0].getClassName().startsWith("Taxmaze");
        return (own ? "" : "not by the class: ") + thrown.getClass().getSimpleName();
    }

    static void tell(boolean holds, String what, String got, String due) {
        if (holds) {
            passed++;
        } else {
            failed++;
            System.out.println("WRONG " + what + ": " + got + ", due is " + due);
        }
    }

    static boolean end() {
        System.out.println(passed + " passed, " + failed + " failed");
        return failed == 0;
    }
}
