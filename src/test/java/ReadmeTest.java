import java.lang.reflect.Field;
import java.lang.reflect.Method;
import java.lang.reflect.Modifier;
import java.nio.file.Files;
import java.nio.file.Path;
import java.util.ArrayList;
import java.util.List;
import java.util.regex.Matcher;
import java.util.regex.Pattern;
import javax.tools.ToolProvider;

/**
 * What README.md says holds: its example is compiled and run as it stands there, each answer behind
 * a call is as told, and its tables name the constants, the calls and the exceptions of the class.
 */
public final class ReadmeTest {
    private static final Pattern LINE = Pattern.compile(
            "(?:int (\\w+) = )?(.*);\\s*// (-?\\d+|true|false|\\w+Exception)(?:: .*)?");

    public static void main(String[] args) throws Exception {
        List<String> readme = Files.readAllLines(Path.of("README.md"));
        theExampleAnswersAsTold(readme);
        theConstantsAreTold(readme);
        theCallsAndTheirExceptionsAreTold(readme);
        Check.is("it tells how to run the tests", true, readme.contains(".ci/run"));
        Check.end();
    }

    /** The class that is written here stands beside this one, so that it can use Check. */
    private static void theExampleAnswersAsTold(List<String> readme) throws Exception {
        Path classes = Path.of(ReadmeTest.class.getProtectionDomain().getCodeSource().getLocation().toURI());
        Path source = classes.resolve("ReadmeExample.java");
        Files.write(source, exampleClass(readme));
        int failed = ToolProvider.getSystemJavaCompiler().run(null, null, null,
                "-d", classes.toString(), "-cp", classes.toString(), source.toString());
        Check.is("the example compiles", 0, failed);
        if (failed == 0) {
            Class.forName("ReadmeExample").getDeclaredMethod("run").invoke(null);
        }
    }

    private static List<String> exampleClass(List<String> readme) {
        List<String> lines = new ArrayList<>(List.of(
                "final class ReadmeExample {", "    static void run() {", "        String got;"));
        int start = readme.indexOf("```java") + 1;
        int calls = 0;
        for (int at = start; at > 0 && at < readme.size() && !readme.get(at).equals("```"); at++) {
            Matcher line = LINE.matcher(readme.get(at));
            if (line.matches()) {
                calls++;
                addCall(lines, line.group(1), line.group(2), line.group(3));
            } else {
                lines.add(readme.get(at));
            }
        }
        Check.is("the example has calls with answers", true, calls > 20);
        lines.addAll(List.of("    }", "}"));
        return lines;
    }

    private static void addCall(List<String> lines, String variable, String call, String due) {
        String asked = call;
        if (variable != null) {
            lines.add("int " + variable + " = " + call + ";");
            asked = variable;
        }
        lines.add("try { got = String.valueOf(" + asked + "); }");
        lines.add("catch (RuntimeException e) { got = e.getClass().getSimpleName(); }");
        lines.add("Check.note(\"README: " + call + "\", \"" + due + "\", got);");
    }

    private static void theConstantsAreTold(List<String> readme) throws IllegalAccessException {
        for (Field field : ShareMover.class.getDeclaredFields()) {
            if (Modifier.isPublic(field.getModifiers())) {
                String row = row(readme, "| `" + field.getName() + "` |");
                Check.note(field.getName(), String.valueOf(field.getInt(null)), cell(row, 2));
            }
        }
    }

    private static void theCallsAndTheirExceptionsAreTold(List<String> readme) {
        for (Method method : ShareMover.class.getDeclaredMethods()) {
            if (Modifier.isPublic(method.getModifiers())) {
                StringBuilder due = new StringBuilder();
                for (Class<?> thrown : method.getExceptionTypes()) {
                    due.append(thrown.getSimpleName()).append(' ');
                }
                String row = row(readme, "| `" + method.getName() + "(");
                Check.note("exceptions of " + method.getName(), due.toString(), exceptionsIn(cell(row, 3)));
                String call = cell(row, 1);
                int told = call.endsWith("()`") ? 0 : call.split(",").length;
                Check.is("parameters of " + method.getName(), method.getParameterCount(), told);
            }
        }
    }

    private static String row(List<String> readme, String start) {
        for (String line : readme) {
            if (line.startsWith(start)) {
                return line;
            }
        }
        return "";
    }

    private static String cell(String row, int number) {
        String[] cells = row.split("\\|");
        return number < cells.length ? cells[number].trim() : "nothing";
    }

    private static String exceptionsIn(String text) {
        StringBuilder names = new StringBuilder();
        Matcher name = Pattern.compile("\\w+Exception").matcher(text);
        while (name.find()) {
            names.append(name.group()).append(' ');
        }
        return names.toString();
    }
}
