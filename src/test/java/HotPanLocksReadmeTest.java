import java.io.IOException;
import java.lang.reflect.InvocationTargetException;
import java.lang.reflect.Method;
import java.nio.charset.StandardCharsets;
import java.nio.file.Files;
import java.nio.file.Path;
import java.util.regex.Matcher;
import java.util.regex.Pattern;

/** README.md shows how to use the class: each call that stands there is made, and answers what stands behind it. */
public final class HotPanLocksReadmeTest {
    private static final Pattern CALL =
            Pattern.compile("locks\\.(\\w+)\\(([^)]*)\\);\\s*// (-?\\d+|throws \\w+)\\b.*");
    private static final int FEWEST = 30;

    private static int wrong = 0;
    private static int made = 0;

    private static void fault(String what) {
        wrong++;
        System.out.println("README.md: " + what);
    }

    private static int argument(String written) {
        return written.startsWith("'") ? written.charAt(1) : Integer.parseInt(written);
    }

    private static Object[] arguments(String written) {
        if (written.isEmpty()) {
            return new Object[0];
        }
        String[] parts = written.split(", ");
        Object[] found = new Object[parts.length];
        for (int place = 0; place < parts.length; place++) {
            found[place] = argument(parts[place]);
        }
        return found;
    }

    private static String answer(HotPanLocks locks, String name, Object[] arguments) throws IllegalAccessException {
        for (Method method : HotPanLocks.class.getMethods()) {
            if (method.getName().equals(name) && method.getParameterCount() == arguments.length) {
                try {
                    return String.valueOf(method.invoke(locks, arguments));
                } catch (InvocationTargetException e) {
                    return "throws " + e.getCause().getClass().getSimpleName();
                }
            }
        }
        return "no such call";
    }

    private static void make(HotPanLocks locks, String line) throws IllegalAccessException {
        Matcher call = CALL.matcher(line);
        if (!call.matches()) {
            fault("not a call with its answer: " + line);
            return;
        }
        made++;
        String got = answer(locks, call.group(1), arguments(call.group(2)));
        if (!got.equals(call.group(3))) {
            fault(line + " -- answered " + got);
        }
    }

    public static void main(String[] args) throws IOException, IllegalAccessException {
        HotPanLocks locks = new HotPanLocks();
        boolean inside = false;
        for (String line : Files.readAllLines(Path.of("README.md"), StandardCharsets.UTF_8)) {
            if (line.startsWith("```")) {
                inside = line.equals("```java");
            } else if (inside && line.startsWith("locks.")) {
                make(locks, line);
            }
        }
        if (made < FEWEST) {
            fault("only " + made + " calls were found");
        }
        System.out.println(made + " calls of README.md" + (wrong == 0 ? " answer as it says" : ", " + wrong + " faults"));
        if (wrong != 0) {
            System.exit(1);
        }
    }
}
