import java.io.IOException;
import java.lang.reflect.Method;
import java.nio.charset.StandardCharsets;
import java.nio.file.Files;
import java.nio.file.Path;
import java.util.Set;
import java.util.TreeSet;
import java.util.regex.Matcher;
import java.util.regex.Pattern;

/** The example of README.md: its text is fed, and each call answers what stands behind it. */
public final class ReadmeTest {
    private ReadmeTest() {
    }

    public static void main(String[] args) throws IOException, ReflectiveOperationException {
        String readme = Files.readString(Path.of("README.md"), StandardCharsets.UTF_8);
        Matcher example = Pattern.compile("(?s)```java\n(.*?)```").matcher(readme);
        Check.holds("README.md has an example", example.find());
        CallLaws x = new CallLaws();
        Check.feed(x, textIn(example.group(1)));
        Set<String> called = new TreeSet<>();
        Matcher call = Pattern.compile("(?m)^x\\.(\\w+)\\((.*)\\); +// (-?\\d+)\\b.*$").matcher(example.group(1));
        while (call.find()) {
            called.add(call.group(1));
            Check.due("README: " + call.group(1) + "(" + call.group(2) + ")", answer(x, call.group(1), call.group(2)),
                Integer.parseInt(call.group(3)));
        }
        Check.holds("README: calls of all kinds " + called, called.size() >= 18);
        Check.end();
    }

    /** All that stands in quotes, joined. */
    private static String textIn(String example) {
        StringBuilder text = new StringBuilder();
        Matcher part = Pattern.compile("\"([^\"]*)\"").matcher(example);
        while (part.find()) {
            text.append(part.group(1));
        }
        return text.toString();
    }

    private static int answer(CallLaws x, String name, String given) throws ReflectiveOperationException {
        String[] numbers = given.isEmpty() ? new String[0] : given.replace("';'", "59").split(", ");
        for (Method m : CallLaws.class.getDeclaredMethods()) {
            if (m.getName().equals(name)) {
                Object[] values = new Object[numbers.length];
                for (int i = 0; i < values.length; i++) {
                    boolean isLong = m.getParameterTypes()[i] == long.class;
                    values[i] = isLong ? (Object) Long.valueOf(numbers[i]) : (Object) Integer.valueOf(numbers[i]);
                }
                return (int) m.invoke(x, values);
            }
        }
        throw new NoSuchMethodException(name);
    }
}
