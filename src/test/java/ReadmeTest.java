import java.io.IOException;
import java.lang.reflect.InvocationTargetException;
import java.lang.reflect.Method;
import java.nio.file.Files;
import java.nio.file.Path;
import java.util.Arrays;
import java.util.HashSet;
import java.util.Set;
import java.util.regex.Matcher;
import java.util.regex.Pattern;

/** The example of README.md, call by call: each answers what the README says behind it. */
public final class ReadmeTest {
    private static final String NEW_OBJECT = "LetterCounts x = new LetterCounts();";
    private static final Pattern CALL = Pattern.compile("x\\.(\\w+)\\(([^)]*)\\); +// ((?:throws )?[\\w-]+): .+");

    private final Checks checks = new Checks();
    private final Set<String> called = new HashSet<>();
    private LetterCounts x;

    public static void main(String[] args) throws IOException {
        ReadmeTest test = new ReadmeTest();
        test.readExample();
        test.allCallsShown();
        test.checks.end();
    }

    private void readExample() throws IOException {
        boolean inside = false;
        for (String line : Files.readAllLines(Path.of("README.md"))) {
            if (line.startsWith("```")) {
                inside = line.equals("```java");
            } else if (inside) {
                readLine(line);
            }
        }
    }

    private void readLine(String line) {
        if (line.equals(NEW_OBJECT)) {
            x = new LetterCounts();
            return;
        }
        Matcher call = CALL.matcher(line);
        if (x == null || !call.matches()) {
            checks.dueText(line, "a call with its answer", "something else");
            return;
        }
        called.add(call.group(1));
        int[] arguments = Arrays.stream(call.group(2).split(", ")).filter(text -> !text.isEmpty())
                .mapToInt(Integer::parseInt).toArray();
        checks.dueText(line, call.group(3), answer(call.group(1), arguments));
    }

    private String answer(String name, int[] arguments) {
        try {
            Method method = methodOf(name, arguments.length);
            Object answer = method.invoke(x, Arrays.stream(arguments).boxed().toArray());
            return answer == null ? "nothing" : answer.toString();
        } catch (InvocationTargetException e) {
            return "throws " + e.getCause().getClass().getSimpleName();
        } catch (ReflectiveOperationException e) {
            return "no such call";
        }
    }

    private static Method methodOf(String name, int parameters) throws NoSuchMethodException {
        Class<?>[] types = new Class<?>[parameters];
        Arrays.fill(types, int.class);
        return LetterCounts.class.getMethod(name, types);
    }

    private void allCallsShown() {
        for (Method method : LetterCounts.class.getMethods()) {
            if (method.getDeclaringClass() == LetterCounts.class) {
                checks.dueText(method.getName() + " is in the example", "true",
                        Boolean.toString(called.contains(method.getName())));
            }
        }
    }
}
