import java.io.IOException;
import java.lang.reflect.InvocationTargetException;
import java.lang.reflect.Method;
import java.nio.file.Files;
import java.nio.file.Path;
import java.util.regex.Matcher;
import java.util.regex.Pattern;

/** The calls in README.md answer what stands behind them there, so that nobody is taught what does not hold. */
public final class ReadmeTest {
    private static final Pattern CALL = Pattern.compile("paths\\.(\\w+)\\((.*)\\); *// (.*)");
    private static final Pattern ANSWER = Pattern.compile("(-?\\d+|true|false|throws \\w+)(:.*)?");
    private static final String NO_ANSWER = "nothing";

    public static void main(String[] args) throws IOException {
        Check check = new Check();
        SweptPaths paths = new SweptPaths();
        for (String line : Files.readAllLines(Path.of("README.md"))) {
            if (line.startsWith("paths.")) {
                hold(check, paths, line);
            }
        }
        check.end();
    }

    private static void hold(Check check, SweptPaths paths, String line) {
        Matcher call = CALL.matcher(line);
        if (!call.matches()) {
            check.due("can be read: " + line, true, false);
            return;
        }
        Matcher written = ANSWER.matcher(call.group(3));
        String due = written.matches() ? written.group(1) : NO_ANSWER;
        String got = answer(paths, call.group(1), call.group(2));
        check.due("README.md has, where the answer is " + got + ": " + line, true, got.equals(due));
    }

    private static String answer(SweptPaths paths, String name, String written) {
        for (Method method : SweptPaths.class.getMethods()) {
            if (method.getName().equals(name)) {
                return answer(paths, method, arguments(written));
            }
        }
        return "no such method";
    }

    private static String answer(SweptPaths paths, Method method, Object[] arguments) {
        try {
            Object answer = method.invoke(paths, arguments);
            return answer == null ? NO_ANSWER : answer.toString();
        } catch (InvocationTargetException e) {
            return "throws " + e.getCause().getClass().getSimpleName();
        } catch (IllegalAccessException | IllegalArgumentException e) {
            return "no such call";
        }
    }

    private static Object[] arguments(String written) {
        if (written.isEmpty()) {
            return new Object[0];
        }
        String[] words = written.split(", ");
        Object[] arguments = new Object[words.length];
        for (int n = 0; n < words.length; n++) {
            boolean truth = words[n].equals("true") || words[n].equals("false");
            arguments[n] = truth ? (Object) Boolean.valueOf(words[n]) : Integer.valueOf(words[n]);
        }
        return arguments;
    }
}
