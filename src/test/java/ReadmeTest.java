import java.io.IOException;
import java.lang.reflect.Method;
import java.lang.reflect.Modifier;
import java.nio.file.Files;
import java.nio.file.Path;
import java.util.Arrays;
import java.util.Set;
import java.util.TreeSet;
import java.util.regex.Matcher;
import java.util.regex.Pattern;

/** The example in README.md: each call answers what stands behind it, and each method of the face is shown. */
public final class ReadmeTest {
    private static final Path README = Path.of("README.md");
    private static final Pattern CALL =
            Pattern.compile("plans\\.(\\w+)\\(([-0-9, ]*)\\); +// (-?\\d+|true|false)(:.*)?");

    public static void main(String[] args) throws IOException, ReflectiveOperationException {
        Checks checks = new Checks("ReadmeTest");
        TurningPlans plans = new TurningPlans();
        Set<String> shown = new TreeSet<>();
        for (String line : Files.readAllLines(README)) {
            if (line.startsWith("plans.")) {
                Matcher call = CALL.matcher(line);
                checks.due("has an answer: " + line, call.matches(), true);
                if (call.matches()) {
                    shown.add(call.group(1));
                    checks.due(line, answer(plans, call.group(1), call.group(2)), call.group(3));
                }
            }
        }
        checks.due("methods that are shown", shown.toString(), publicMethods().toString());
        checks.end();
    }

    private static String answer(TurningPlans plans, String name, String arguments)
            throws ReflectiveOperationException {
        Object[] values = arguments.isEmpty() ? new Object[0]
                : Arrays.stream(arguments.split(", ")).map(Integer::valueOf).toArray();
        Class<?>[] types = new Class<?>[values.length];
        Arrays.fill(types, int.class);
        return String.valueOf(TurningPlans.class.getMethod(name, types).invoke(plans, values));
    }

    private static Set<String> publicMethods() {
        Set<String> names = new TreeSet<>();
        for (Method method : TurningPlans.class.getDeclaredMethods()) {
            if (Modifier.isPublic(method.getModifiers())) {
                names.add(method.getName());
            }
        }
        return names;
    }

    private ReadmeTest() {
    }
}
