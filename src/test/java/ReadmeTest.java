import java.lang.reflect.Method;
import java.lang.reflect.Modifier;
import java.nio.file.Files;
import java.nio.file.Path;
import java.util.HashSet;
import java.util.Set;
import java.util.regex.Matcher;
import java.util.regex.Pattern;

/** README.md is true: its example answers what stands behind each call, its calls are those of the class. */
public final class ReadmeTest {
    private static final Pattern EXAMPLE = Pattern.compile("(?s)```java\n(.*?)```");
    private static final Pattern DOME = Pattern.compile("String dome = \"(.*?)\";");
    private static final Pattern ANSWERED = Pattern.compile("(?m)^x\\.(\\w+)\\(([-0-9, ]*)\\); +// (-?\\d+)");
    private static final Pattern TOLD_CALL = Pattern.compile("`(\\w+)\\(([a-z, ]*)\\)`");
    private static final Pattern KIND = Pattern.compile("(?m)^\\| `([a-z])` \\| (\\d),");
    private static final Pattern ANSWER = Pattern.compile("`([A-Z]+)` \\((-\\d)\\)");

    private static final Check check = new Check();

    public static void main(String[] args) throws ReflectiveOperationException, java.io.IOException {
        String page = Files.readString(Path.of("README.md"));
        example(page);
        calls(page);
        kinds(page);
        answers(page);
        check.end();
    }

    private static String firstOf(Pattern pattern, String text) {
        Matcher found = pattern.matcher(text);
        return found.find() ? found.group(1) : "";
    }

    private static int partsOf(String list) {
        return list.isBlank() ? 0 : list.split(",").length;
    }

    private static Method callOf(String name, int numbers) {
        for (Method method : DomeSlit.class.getDeclaredMethods()) {
            if (Modifier.isPublic(method.getModifiers()) && method.getName().equals(name)
                    && method.getParameterCount() == numbers) {
                return method;
            }
        }
        return null;
    }

    private static void example(String page) throws ReflectiveOperationException {
        String example = firstOf(EXAMPLE, page);
        DomeSlit x = new DomeSlit();
        Bench.write(x, 0, firstOf(DOME, example));
        Matcher line = ANSWERED.matcher(example);
        int lines = 0;
        while (line.find()) {
            lines++;
            Object[] numbers = new Object[partsOf(line.group(2))];
            for (int k = 0; k < numbers.length; k++) {
                numbers[k] = Integer.valueOf(line.group(2).split(",")[k].strip());
            }
            Method call = callOf(line.group(1), numbers.length);
            if (call == null) {
                check.holds(line.group() + " is a call", false);
            } else {
                Number got = (Number) call.invoke(x, numbers);
                check.due("example: " + line.group(), got.longValue(), Long.parseLong(line.group(3)));
            }
        }
        check.due("lines of the example that tell an answer", lines, 16);
    }

    private static void calls(String page) {
        Set<String> told = new HashSet<>();
        Matcher call = TOLD_CALL.matcher(page);
        while (call.find()) {
            check.holds(call.group() + " is a call", callOf(call.group(1), partsOf(call.group(2))) != null);
            told.add(call.group(1));
        }
        for (Method method : DomeSlit.class.getDeclaredMethods()) {
            if (Modifier.isPublic(method.getModifiers())) {
                check.holds(method.getName() + " is told", told.contains(method.getName()));
            }
        }
    }

    private static void kinds(String page) {
        Matcher row = KIND.matcher(page);
        int rows = 0;
        while (row.find()) {
            rows++;
            DomeSlit x = Bench.domeOf("o302 " + row.group(1) + "0039");
            check.due(row.group() + ": light(0, 0)", x.light(0, 0), 1);
            check.due(row.group() + ": its kind", x.asked(), Integer.parseInt(row.group(2)));
        }
        check.due("kinds", rows, 6);
    }

    private static void answers(String page) throws ReflectiveOperationException {
        Set<String> told = new HashSet<>();
        Matcher answer = ANSWER.matcher(page);
        while (answer.find()) {
            told.add(answer.group(1));
            int value = DomeSlit.class.getField(answer.group(1)).getInt(null);
            check.due(answer.group(1), Integer.parseInt(answer.group(2)), value);
        }
        check.due("answers", told.size(), 5);
    }
}
