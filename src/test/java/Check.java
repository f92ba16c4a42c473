/** Counts the answers that are not as due; a test ends with exit code 1 if there was one. */
final class Check {
    interface Call {
        long answer();
    }

    private static int wrong = 0;
    private static int checks = 0;

    private Check() {
    }

    static void is(String what, long due, long got) {
        note(what, String.valueOf(due), String.valueOf(got));
    }

    static void is(String what, boolean due, boolean got) {
        note(what, String.valueOf(due), String.valueOf(got));
    }

    static void noSuch(String what, Call call) {
        note(what, "IndexOutOfBoundsException", outcome(call));
    }

    static void badArgument(String what, Call call) {
        note(what, "IllegalArgumentException", outcome(call));
    }

    static void badState(String what, Call call) {
        note(what, "IllegalStateException", outcome(call));
    }

    static void note(String what, String due, String got) {
        checks++;
        if (!due.equals(got)) {
            wrong++;
            System.out.println(what + ": " + got + ", due is " + due);
        }
    }

    /** The answer as a text, or the exception's name; one that ShareMover's own code did not throw is told as such. */
    static String outcome(Call call) {
        try {
            return String.valueOf(call.answer());
        } catch (RuntimeException e) {
            String name = e.getClass().getSimpleName();
            StackTraceElement[] trace = e.getStackTrace();
            boolean own = trace.length > 0 && trace[0].getClassName().startsWith("ShareMover");
            return own ? name : name + " by the machine";
        }
    }

    static long bit(boolean is) {
        return is ? 1 : 0;
    }

    static void end() {
        System.out.println(checks + " checks, " + wrong + " wrong");
        if (wrong != 0 || checks == 0) {
            System.exit(1);
        }
    }
}
