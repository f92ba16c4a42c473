import java.lang.reflect.InvocationTargetException;
import java.lang.reflect.Method;
import java.util.Arrays;
import java.util.Comparator;

/** Counts the answers that are not as due; a test ends with exit code 1 if there was one. */
final class Check {
    interface Call {
        long answer();
    }

    private static int wrong = 0;
    private static int checks = 0;

    private Check() {
    }

    /** Runs each function of a test whose name bears a promise's number; one that breaks off is wrong, and the rest still run. */
    static void promisesOf(Class<?> test) {
        Method[] functions = test.getDeclaredMethods();
        Arrays.sort(functions, Comparator.comparing(Method::getName));
        for (Method function : functions) {
            if (bearsANumber(function.getName())) {
                run(function);
            }
        }
    }

    private static boolean bearsANumber(String function) {
        return function.matches("promises?\\d.*");
    }

    private static void run(Method function) {
        function.setAccessible(true);
        try {
            function.invoke(null);
        } catch (InvocationTargetException e) {
            note(function.getName() + ": " + e.getCause(), "an end", "broken off");
        } catch (IllegalAccessException e) {
            throw new IllegalStateException(e);
        }
    }

    static void is(String what, long due, long got) {
        note(what, String.valueOf(due), String.valueOf(got));
    }

    static void is(String what, boolean due, boolean got) {
        note(what, String.valueOf(due), String.valueOf(got));
    }

    static void noSuch(String what, Call call) {
        note(what, "IndexOutOfBoundsException", outcome(call));
    }

    static void badArgument(String what, Call call) {
        note(what, "IllegalArgumentException", outcome(call));
    }

    static void badState(String what, Call call) {
        note(what, "IllegalStateException", outcome(call));
    }

    static void note(String what, String due, String got) {
        checks++;
        if (!due.equals(got)) {
            wrong++;
            System.out.println(numberedFunction() + what + ": " + got + ", due is " + due);
        }
    }

    /** The name of the test's function that bears the promise's number; empty if none does. */
    private static String numberedFunction() {
        for (StackTraceElement frame : new Throwable().getStackTrace()) {
            if (bearsANumber(frame.getMethodName())) {
                return frame.getMethodName() + ": ";
            }
        }
        return "";
    }

    /** The answer as a text, or the exception's name; one that ShareMover's own code did not throw is told as such. */
    static String outcome(Call call) {
        try {
            return String.valueOf(call.answer());
        } catch (RuntimeException e) {
            String name = e.getClass().getSimpleName();
            StackTraceElement[] trace = e.getStackTrace();
            boolean own = trace.length > 0 && trace[0].getClassName().startsWith("ShareMover");
            return own ? name : name + " by the machine";
        }
    }

    static long bit(boolean is) {
        return is ? 1 : 0;
    }

    static void end() {
        System.out.println(checks + " checks, " + wrong + " wrong");
        if (wrong != 0 || checks == 0) {
            System.exit(1);
        }
    }
}
