import java.io.IOException;
import java.lang.reflect.Method;
import java.nio.file.Files;
import java.nio.file.Path;
import java.util.regex.Matcher;
import java.util.regex.Pattern;

/** The example of README.md, call by call: behind each one stands what it answers. */
final class ReadmeTest {
    private static final Pattern CALL = Pattern.compile("x\\.(\\w+)\\(([^)]*)\\); +// (\\S+).*");

    public static void main(String[] args) throws IOException {
        String text = Files.readString(Path.of("README.md"));
        String[] example = text.split("```java\n|```\n")[1].split("\n");
        Due.test("README.md says how to use the class", () -> follow(example));
        Due.finish();
    }

    private static void follow(String[] example) {
        TraceTier x = new TraceTier();
        Due.same("the first line", example[0], "TraceTier x = new TraceTier();");
        Due.isTrue("there are calls", example.length > 1);
        for (int line = 1; line < example.length; line++) {
            Matcher call = CALL.matcher(example[line]);
            Due.isTrue("a call with its answer: " + example[line], call.matches());
            Due.same(example[line], answer(x, call.group(1), call.group(2)), call.group(3));
        }
    }

    private static String answer(TraceTier x, String name, String given) {
        String[] parts = given.isEmpty() ? new String[0] : given.split(", ");
        Object[] arguments = new Object[parts.length];
        for (int p = 0; p < parts.length; p++) {
            boolean isNumber = !parts[p].equals("true") && !parts[p].equals("false");
            arguments[p] = isNumber ? (Object) Integer.valueOf(parts[p]) : (Object) Boolean.valueOf(parts[p]);
        }
        try {
            return String.valueOf(method(name).invoke(x, arguments));
        } catch (ReflectiveOperationException e) {
            return "nothing, but ends with " + e;
        }
    }

    private static Method method(String name) throws NoSuchMethodException {
        for (Method m : TraceTier.class.getDeclaredMethods()) {
            if (m.getName().equals(name)) {
                return m;
            }
        }
        throw new NoSuchMethodException(name);
    }
}
