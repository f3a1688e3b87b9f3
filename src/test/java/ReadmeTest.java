import java.io.IOException;
import java.lang.reflect.InvocationTargetException;
import java.lang.reflect.Method;
import java.lang.reflect.Modifier;
import java.nio.file.Files;
import java.nio.file.Path;
import java.util.regex.Matcher;
import java.util.regex.Pattern;

/** README.md, read from the project's folder: its example answers what it says, its table has every call. */
public final class ReadmeTest {
    private static final Pattern CALL =
            Pattern.compile("drive\\.(\\w+)\\(([^)]*)\\); +// (-?\\d+).*");
    private static final int CALLS_OF_THE_EXAMPLE = 14;
    private static final Checks CHECKS = new Checks();

    public static void main(String[] args) throws IOException, ReflectiveOperationException {
        String readme = Files.readString(Path.of("README.md"));
        example(readme);
        table(readme);
        CHECKS.end();
    }

    private static void example(String readme) throws ReflectiveOperationException {
        DefectDrive drive = new DefectDrive();
        int calls = 0;
        for (String line : readme.lines().filter(text -> text.startsWith("drive.")).toList()) {
            Matcher call = CALL.matcher(line);
            CHECKS.holds("a call and its answer: " + line, call.matches());
            if (call.matches()) {
                int due = Integer.parseInt(call.group(3));
                CHECKS.same(line, answer(drive, call.group(1), call.group(2).split(", *")), due);
                calls++;
            }
        }
        CHECKS.same("calls of the example", calls, CALLS_OF_THE_EXAMPLE);
    }

    private static int answer(DefectDrive drive, String name, String[] written)
            throws IllegalAccessException, InvocationTargetException {
        Method method = method(name);
        Object[] arguments = new Object[method.getParameterCount()];
        for (int k = 0; k < arguments.length; k++) {
            if (method.getParameterTypes()[k] == boolean.class) {
                arguments[k] = Boolean.valueOf(written[k]);
            } else {
                arguments[k] = Integer.valueOf(written[k]);
            }
        }
        return (Integer) method.invoke(drive, arguments);
    }

    private static Method method(String name) {
        for (Method method : DefectDrive.class.getMethods()) {
            if (method.getName().equals(name)) {
                return method;
            }
        }
        throw new IllegalArgumentException("there is no call " + name);
    }

    private static void table(String readme) {
        for (Method method : DefectDrive.class.getDeclaredMethods()) {
            if (Modifier.isPublic(method.getModifiers())) {
                Pattern row = Pattern.compile("^\\|.*`" + method.getName() + "\\(.*`.*\\|", Pattern.MULTILINE);
                CHECKS.holds("a row for " + method.getName(), row.matcher(readme).find());
            }
        }
    }
}
