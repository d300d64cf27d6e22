import java.lang.reflect.Method;
import java.nio.file.Files;
import java.nio.file.Path;
import java.util.regex.Matcher;
import java.util.regex.Pattern;

/** The example of README.md: every call answers what stands behind it. Runs in the project's folder. */
public final class ReadmeTest {
    private static final Pattern TEXT = Pattern.compile("for \\(char c : \"([^\"]*)\"");
    private static final Pattern CALL = Pattern.compile("x\\.(\\w+)\\(([^)]*)\\);\\s+// (-?\\d+):.*");
    private static final int LEAST_CALLS = 15;

    private static final Due due = new Due();

    public static void main(String[] args) throws Exception {
        CacheBounds x = new CacheBounds();
        int calls = 0;
        for (String line : example().split("\n")) {
            Matcher text = TEXT.matcher(line);
            Matcher call = CALL.matcher(line);
            if (text.find()) {
                for (char c : text.group(1).toCharArray()) {
                    x.type(c);
                }
            } else if (call.matches()) {
                due.is(line, answer(x, call.group(1), call.group(2)), Long.parseLong(call.group(3)));
                calls++;
            } else {
                due.holds("is no call: " + line, line.equals("CacheBounds x = new CacheBounds();"));
            }
        }
        due.holds("calls were found: " + calls, calls >= LEAST_CALLS);
        due.end("ReadmeTest");
    }

    private static String example() throws Exception {
        String all = Files.readString(Path.of("README.md"));
        int from = all.indexOf("```java\n") + "```java\n".length();
        return all.substring(from, all.indexOf("```", from));
    }

    private static long answer(CacheBounds x, String name, String arguments) throws Exception {
        String[] parts = arguments.isEmpty() ? new String[0] : arguments.split(", ");
        Class<?>[] types = new Class<?>[parts.length];
        Object[] numbers = new Object[parts.length];
        for (int i = 0; i < parts.length; i++) {
            types[i] = int.class;
            numbers[i] = Integer.valueOf(parts[i]);
        }
        Method method = CacheBounds.class.getMethod(name, types);
        return ((Number) method.invoke(x, numbers)).longValue();
    }
}
