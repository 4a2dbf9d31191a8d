import java.io.IOException;
import java.lang.reflect.InvocationTargetException;
import java.lang.reflect.Method;
import java.lang.reflect.Modifier;
import java.nio.file.Files;
import java.nio.file.Path;
import java.util.regex.Matcher;
import java.util.regex.Pattern;

/** The example of README.md answers as it says there, and README.md names every call. */
public final class ReadmeTest {
    private static final Pattern CALL =
            Pattern.compile("shares\\.(\\w+)\\((.*)\\); +// ([^: ]+): .*");

    private final Checks checks = new Checks();
    private final SliceShares shares = new SliceShares();

    public static void main(String[] args) throws IOException {
        String readme = Files.readString(Path.of("README.md"));
        ReadmeTest test = new ReadmeTest();
        test.askExample(readme);
        test.askNames(readme);
        test.checks.end();
    }

    private void askExample(String readme) {
        int calls = 0;
        for (String line : readme.split("\n")) {
            Matcher call = CALL.matcher(line);
            if (call.matches()) {
                calls++;
                checks.due(line, call.group(3), answer(call.group(1), call.group(2)));
            }
        }
        checks.due("README.md shows calls", true, calls > 0);
    }

    private void askNames(String readme) {
        for (Method method : SliceShares.class.getDeclaredMethods()) {
            if (Modifier.isPublic(method.getModifiers())) {
                checks.due("README.md names " + method.getName(), true,
                        readme.contains("`" + method.getName() + "`"));
            }
        }
    }

    private String answer(String name, String arguments) {
        String[] texts = arguments.isEmpty() ? new String[0] : arguments.split(", ");
        for (Method method : SliceShares.class.getDeclaredMethods()) {
            if (method.getName().equals(name)) {
                return answer(method, texts);
            }
        }
        return "no such call";
    }

    private String answer(Method method, String[] texts) {
        Object[] numbers = new Object[texts.length];
        for (int i = 0; i < texts.length; i++) {
            numbers[i] = number(texts[i]);
        }
        try {
            return method.invoke(shares, numbers).toString();
        } catch (InvocationTargetException e) {
            return "throws." + e.getCause().getClass().getSimpleName();
        } catch (IllegalAccessException | IllegalArgumentException e) {
            return "not such arguments";
        }
    }

    private static Object number(String text) {
        if (text.endsWith("L")) {
            return Long.decode(text.substring(0, text.length() - 1));
        }
        return Integer.decode(text);
    }
}
