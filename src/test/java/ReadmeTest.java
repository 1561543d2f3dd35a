import java.io.IOException;
import java.lang.reflect.Method;
import java.lang.reflect.Modifier;
import java.nio.file.Files;
import java.nio.file.Path;
import java.util.regex.Matcher;
import java.util.regex.Pattern;

/** What README.md tells of the class is so: each row of its example, and its table of calls. */
public final class ReadmeTest extends Bench {
    private static final String NEW_OBJECT = "ShownPatterns x = new ShownPatterns();";
    private static final Pattern EXAMPLE = Pattern.compile("(?s)```java\n(.*?)```");
    private static final Pattern CALL = Pattern.compile("x\\.(\\w+)\\(([^)]*)\\); +// (-?\\d+)\\b.*");

    public static void main(String[] args) throws IOException, ReflectiveOperationException {
        new ReadmeTest().all(Files.readString(Path.of("README.md")));
    }

    private void all(String readme) throws ReflectiveOperationException {
        example(readme);
        textsOfTheExample();
        table(readme);
        check.end();
    }

    private void example(String readme) throws ReflectiveOperationException {
        begin("README, the example");
        Matcher example = EXAMPLE.matcher(readme);
        due("there is one", example.find());
        for (String row : example.group(1).split("\n")) {
            if (row.equals(NEW_OBJECT)) {
                renew();
            } else if (!row.isBlank()) {
                call(row);
            }
        }
    }

    private void call(String row) throws ReflectiveOperationException {
        Matcher call = CALL.matcher(row);
        due("a call and its answer: " + row, call.matches());
        String[] told = call.group(2).isEmpty() ? new String[0] : call.group(2).split(", ");
        Object[] numbers = new Object[told.length];
        for (int i = 0; i < told.length; i++) {
            numbers[i] = Integer.decode(told[i]);
        }
        due(row, (int) method(call.group(1)).invoke(x, numbers), Integer.parseInt(call.group(3)));
    }

    private static Method method(String name) throws NoSuchMethodException {
        for (Method method : ShownPatterns.class.getDeclaredMethods()) {
            if (method.getName().equals(name) && Modifier.isPublic(method.getModifiers())) {
                return method;
            }
        }
        throw new NoSuchMethodException(name);
    }

    /** The texts that the example's words tell, and its rows. */
    private void textsOfTheExample() {
        dueSaid(0, "ab+?");
        dueSaid(1, "a+b?");
        dueSaid(2, "(ab)+");
        dueSaid(3, "(a[bc])+");
        dueSaid(4, "(ab)+");
        due("the empty row", number(""), 1);
        due("a", number("a"), 3);
        due("b", number("b"), 4);
        due("c", number("c"), 5);
        due("aa", number("aa"), 9);
        due("ab", number("ab"), 10);
        due("cb", number("cb"), 16);
        due("abb", number("abb"), 31);
        due("abab", number("abab"), 91);
        due("bcab", number("bcab"), 127);
    }

    private void table(String readme) {
        begin("README, the table of calls");
        int rows = 0;
        for (String row : readme.split("\n")) {
            rows += row.startsWith("| `") ? 1 : 0;
        }
        int calls = 0;
        for (Method method : ShownPatterns.class.getDeclaredMethods()) {
            if (Modifier.isPublic(method.getModifiers())) {
                calls++;
                String parameters = parameters(method.getParameterCount());
                Pattern row = Pattern.compile("(?m)^\\| `" + method.getName() + "\\(" + parameters + "\\)` \\| ");
                due(method.getName() + " with its parameters", row.matcher(readme).find());
            }
        }
        due("rows of the table", rows, calls);
    }

    private static String parameters(int count) {
        return count == 0 ? "" : "\\w+" + ", \\w+".repeat(count - 1);
    }
}
