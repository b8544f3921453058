import java.lang.reflect.Method;
import java.nio.file.Files;
import java.nio.file.Path;
import java.util.regex.Matcher;
import java.util.regex.Pattern;

/** The calls that README.md shows, run as they stand there: the number behind // is the answer that is due. */
public final class ReadmeTest {
    private static final String MADE = "KnottedWinds x = new KnottedWinds();";
    private static final Pattern CALL = Pattern.compile("x\\.(\\w+)\\(([^)]*)\\); +// (-?\\d+)(?::.*)?");
    private static final int LEAST_CALLS = 40;

    private static KnottedWinds x;
    private static int asked;
    private static int wrong;

    private static Object number(String written, Class<?> type) {
        if (type == long.class) {
            return Long.decode(written.replaceFirst("L$", ""));
        }
        return Integer.decode(written);
    }

    private static int answer(String name, String written) throws Exception {
        String[] numbers = written.isEmpty() ? new String[0] : written.split(", ");
        for (Method m : KnottedWinds.class.getMethods()) {
            if (m.getName().equals(name) && m.getParameterCount() == numbers.length) {
                Object[] arguments = new Object[numbers.length];
                for (int i = 0; i < numbers.length; i++) {
                    arguments[i] = number(numbers[i], m.getParameterTypes()[i]);
                }
                return (Integer) m.invoke(x, arguments);
            }
        }
        throw new IllegalStateException("no such method: " + name + "(" + written + ")");
    }

    private static void run(String line) throws Exception {
        if (line.equals(MADE)) {
            x = new KnottedWinds();
            return;
        }
        Matcher call = CALL.matcher(line);
        if (!call.matches()) {
            wrong++;
            System.out.println("README: not a call with its answer: " + line);
            return;
        }
        asked++;
        int got = answer(call.group(1), call.group(2));
        if (got != Integer.parseInt(call.group(3))) {
            wrong++;
            System.out.println("README: " + line + " answered " + got);
        }
    }

    public static void main(String[] args) throws Exception {
        boolean shown = false;
        for (String line : Files.readAllLines(Path.of("README.md"))) {
            if (line.startsWith("```")) {
                shown = line.equals("```java");
            } else if (shown && !line.isEmpty()) {
                run(line);
            }
        }
        if (asked < LEAST_CALLS) {
            wrong++;
            System.out.println("README: only " + asked + " calls were found");
        }
        System.out.println("README: " + asked + " calls were asked, " + wrong + " are not as due");
        if (wrong != 0) {
            System.exit(1);
        }
    }
}
