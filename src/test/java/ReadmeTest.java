import java.io.IOException;
import java.lang.reflect.InvocationTargetException;
import java.lang.reflect.Method;
import java.nio.file.Files;
import java.nio.file.Path;
import java.util.regex.Matcher;
import java.util.regex.Pattern;

/** The examples of README.md answer what stands behind them; run in the project's own directory. */
public final class ReadmeTest {
    private static final Pattern CALL = Pattern.compile("hall\\.(\\w+)\\((.*)\\); *// ([-\\w]+)(:.*)?");
    private static final Pattern TEXT = Pattern.compile("feed\\(hall, \"(.*)\"\\)");

    private static IslandHall hall = null;

    public static void main(String[] args) throws IOException {
        Check check = new Check();
        int calls = 0;
        for (String line : Files.readAllLines(Path.of("README.md"))) {
            if (line.equals("IslandHall hall = new IslandHall();")) {
                hall = new IslandHall();
            }
            if (!line.startsWith("hall.")) {
                continue;
            }
            Matcher m = CALL.matcher(line);
            check.due("an answer stands behind " + line, () -> m.matches() ? 1 : 0, 1);
            if (m.matches()) {
                calls++;
                check.due(line, () -> answer(m.group(1), m.group(2)), due(m.group(3)));
            }
        }
        int seen = calls;
        check.due("calls were seen, " + seen, () -> seen > 40 ? 1 : 0, 1);
        check.end();
    }

    private static long due(String text) {
        switch (text) {
            case "true":
                return 1;
            case "false":
                return 0;
            case "NoSuchElementException":
                return Check.NO_SUCH;
            case "IllegalArgumentException":
                return Check.ILLEGAL;
            default:
                return Long.parseLong(text);
        }
    }

    private static long answer(String name, String told) {
        Matcher text = TEXT.matcher(told);
        if (text.matches()) {
            Check.feed(hall, text.group(1));
            return call(name, text.group(1).length());
        }
        String[] parts = told.isEmpty() ? new String[0] : told.split(", ");
        Object[] numbers = new Object[parts.length];
        for (int i = 0; i < parts.length; i++) {
            numbers[i] = Integer.decode(parts[i]);
        }
        return call(name, numbers);
    }

    private static long call(String name, Object... numbers) {
        for (Method m : IslandHall.class.getMethods()) {
            if (m.getName().equals(name) && m.getParameterCount() == numbers.length) {
                return called(m, numbers);
            }
        }
        throw new IllegalStateException("no call named " + name);
    }

    private static long called(Method m, Object[] numbers) {
        try {
            Object answer = m.invoke(hall, numbers);
            return answer instanceof Boolean ? (Boolean) answer ? 1 : 0 : (Integer) answer;
        } catch (InvocationTargetException e) {
            if (e.getCause() instanceof RuntimeException) {
                throw (RuntimeException) e.getCause();
            }
            throw new IllegalStateException(e);
        } catch (IllegalAccessException e) {
            throw new IllegalStateException(e);
        }
    }
}
