import java.io.IOException;
import java.lang.reflect.Executable;
import java.lang.reflect.Field;
import java.lang.reflect.Modifier;
import java.nio.file.Files;
import java.nio.file.Path;
import java.util.ArrayList;
import java.util.Arrays;
import java.util.List;
import java.util.regex.Matcher;
import java.util.regex.Pattern;
import java.util.stream.Stream;

/** The rules of LANGUAGE.md that can be seen in the lines of the class or in its members. */
public final class LanguageTest {
    private static final Path FOLDER = Path.of("src", "main", "java");
    private static final Path FILE = FOLDER.resolve("SliceShares.java");

    private static final String EXCEPTIONS =
            "(IllegalState|IllegalArgument|IndexOutOfBounds|Arithmetic|UnsupportedOperation"
            + "|NoSuchElement|Runtime)Exception";
    private static final Pattern THROW = Pattern.compile("\\bthrow\\b(?! new " + EXCEPTIONS
            + "\\((\"[^\"]*\")?\\);).*");
    private static final Pattern NO_WORDS = Pattern.compile("\\b(package|import|protected"
            + "|finally|synchronized|assert|volatile|transient|native|equals|hashCode|toString"
            + "|\\w+Exact)\\b|->|::");
    private static final Pattern NO_LIBRARY = Pattern.compile("\\bSystem\\.(?!arraycopy\\b)\\w+"
            + "|\\bMath\\.(?!(max|min|abs|floorDiv|floorMod)\\b)\\w+");
    private static final Pattern COMMENT_OR_TEXT =
            Pattern.compile("(?s)/\\*.*?\\*/|//[^\n]*|\"[^\"\n]*\"");
    private static final Pattern OPENS = Pattern.compile("( {4}| {8})[a-z].*\\(.*");
    private static final Pattern CLOSES = Pattern.compile("( {4}| {8})\\}");

    private static final int MOST_CLASSES = 12;
    private static final int MOST_FIELDS = 20;
    private static final int MOST_PARAMETERS = 7;
    private static final int MOST_LINES = 60;

    private final Checks checks = new Checks();

    public static void main(String[] args) throws IOException {
        LanguageTest test = new LanguageTest();
        String source = Files.readString(FILE);
        test.lookAtTheFile(source);
        test.lookAtMethodLines(source.split("\n"));
        test.lookAtClasses();
        test.checks.end();
    }

    private void none(String rule, List<String> found) {
        checks.due(rule, List.of(), found);
    }

    private static List<String> found(Pattern pattern, String text) {
        List<String> found = new ArrayList<>();
        Matcher matcher = pattern.matcher(text);
        while (matcher.find()) {
            found.add(matcher.group());
        }
        return found;
    }

    private void lookAtTheFile(String source) throws IOException {
        try (Stream<Path> files = Files.list(FOLDER)) {
            checks.due("the program is one file", List.of(FILE), files.toList());
        }
        String code = COMMENT_OR_TEXT.matcher(source).replaceAll("\"\"");
        none("signs that are not 1 to 127", found(Pattern.compile("[^\\x01-\\x7f]"), source));
        none("rules 1, 2 and 6: what is not written", found(NO_WORDS, code));
        none("rule 4: what is not called", found(NO_LIBRARY, code));
        none("rule 6: what is not thrown", found(THROW, source));
    }

    private void lookAtMethodLines(String[] lines) {
        int[] opened = new int[2];
        for (int i = 0; i < lines.length; i++) {
            int depth = lines[i].startsWith("        ") ? 1 : 0;
            if (OPENS.matcher(lines[i]).matches()) {
                opened[depth] = i;
            }
            if (CLOSES.matcher(lines[i]).matches() && opened[depth] > 0) {
                int length = i - opened[depth] + 1;
                checks.due("rule 11: the lines of " + lines[opened[depth]] + " are too many",
                        false, length > MOST_LINES);
                opened[depth] = 0;
            }
        }
    }

    private void lookAtClasses() {
        Class<?>[] inside = SliceShares.class.getDeclaredClasses();
        checks.due("rule 11: there are too many classes", false, inside.length >= MOST_CLASSES);
        lookAtMembers(SliceShares.class);
        for (Class<?> one : inside) {
            checks.due("rule 1: " + one.getName() + " is static, and not public", true,
                    Modifier.isStatic(one.getModifiers())
                    && !Modifier.isPublic(one.getModifiers())
                    && !Modifier.isProtected(one.getModifiers()));
            lookAtMembers(one);
        }
    }

    private void lookAtMembers(Class<?> one) {
        int fields = 0;
        for (Field field : one.getDeclaredFields()) {
            boolean isStatic = Modifier.isStatic(field.getModifiers());
            fields += isStatic ? 0 : 1;
            checks.due("rule 5: " + field + " may change", false,
                    isStatic && !Modifier.isFinal(field.getModifiers()));
        }
        checks.due("rule 11: " + one + " has too many fields", false, fields > MOST_FIELDS);
        List<Executable> calls = new ArrayList<>(Arrays.asList(one.getDeclaredConstructors()));
        calls.addAll(Arrays.asList(one.getDeclaredMethods()));
        for (Executable call : calls) {
            checks.due("rule 11: " + call + " takes too much", false,
                    call.getParameterCount() > MOST_PARAMETERS);
        }
    }
}
