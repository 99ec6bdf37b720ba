import java.io.IOException;
import java.lang.reflect.InvocationTargetException;
import java.lang.reflect.Method;
import java.nio.file.Files;
import java.nio.file.Path;
import java.util.regex.Matcher;
import java.util.regex.Pattern;

/** The calls in README.md answer what the README says behind them, from the first to the last. */
public final class ReadmeTest {
    private static final Check CHECK = new Check("ReadmeTest");
    private static final Pattern CALL =
            Pattern.compile("index\\.(\\w+)\\(([^)]*)\\);\\s*// (throws \\w+|-?\\d+)\\b.*");

    public static void main(String[] args) throws IOException, IllegalAccessException {
        MonotonePostings index = new MonotonePostings();
        int calls = 0;
        for (String line : Files.readAllLines(Path.of("README.md"))) {
            Matcher matcher = CALL.matcher(line);
            if (line.startsWith("index.")) {
                CHECK.same(line + " can be read", matcher.matches(), true);
                calls++;
            }
            if (matcher.matches()) {
                CHECK.same(line, answer(index, matcher.group(1), matcher.group(2)), matcher.group(3));
            }
        }
        CHECK.same("README.md has calls", calls > 0, true);
        CHECK.end();
    }

    private static String answer(MonotonePostings index, String name, String arguments)
            throws IllegalAccessException {
        String[] texts = arguments.isEmpty() ? new String[0] : arguments.split(", ");
        Object[] values = new Object[texts.length];
        for (int i = 0; i < texts.length; i++) {
            values[i] = Integer.valueOf(texts[i]);
        }
        try {
            return String.valueOf(methodNamed(name).invoke(index, values));
        } catch (InvocationTargetException e) {
            return "throws " + e.getCause().getClass().getSimpleName();
        }
    }

    private static Method methodNamed(String name) {
        for (Method method : MonotonePostings.class.getMethods()) {
            if (method.getName().equals(name)) {
                return method;
            }
        }
        throw new IllegalStateException("the class has no method " + name);
    }
}
