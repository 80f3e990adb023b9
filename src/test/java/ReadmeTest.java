import java.lang.reflect.Method;
import java.lang.reflect.Modifier;
import java.nio.file.Files;
import java.nio.file.Path;
import java.util.regex.Matcher;
import java.util.regex.Pattern;

/** What README.md tells of the class: its example's answers, and a row for each call. */
public final class ReadmeTest {
    private static final Pattern EXAMPLE = Pattern.compile("(?s)```java\n(.*?)```");
    private static final Pattern CALL = Pattern.compile("house\\.(\\w+)\\((.*)\\); *// (-?\\d+|[A-Z]+)\\b.*");

    private static Method methodOf(String name) {
        for (Method method : OutboxHouse.class.getDeclaredMethods()) {
            if (Modifier.isPublic(method.getModifiers()) && method.getName().equals(name)) {
                return method;
            }
        }
        throw new IllegalArgumentException("no call " + name);
    }

    private static Object[] arguments(String list) {
        String[] words = list.isEmpty() ? new String[0] : list.split(", ");
        Object[] arguments = new Object[words.length];
        for (int i = 0; i < words.length; i++) {
            boolean truth = words[i].equals("true") || words[i].equals("false");
            arguments[i] = truth ? (Object) Boolean.valueOf(words[i]) : (Object) Integer.valueOf(words[i]);
        }
        return arguments;
    }

    private static int answer(String told) throws ReflectiveOperationException {
        boolean named = Character.isLetter(told.charAt(0));
        return named ? OutboxHouse.class.getField(told).getInt(null) : Integer.parseInt(told);
    }

    private static void askAsTold(OutboxHouse house, String line) {
        Matcher call = CALL.matcher(line);
        if (!call.matches()) {
            Check.wrong("no call with its answer: " + line);
            return;
        }
        try {
            int got = (Integer) methodOf(call.group(1)).invoke(house, arguments(call.group(2)));
            Check.due(line, got, answer(call.group(3)));
        } catch (ReflectiveOperationException thrown) {
            Check.wrong(line + " ended by " + thrown);
        }
    }

    private static void example(String readme) {
        Matcher block = EXAMPLE.matcher(readme);
        if (!block.find()) {
            Check.wrong("there is no example");
            return;
        }
        String[] lines = block.group(1).split("\n");
        Check.due("its first line makes the object, as 1",
            lines[0].equals("OutboxHouse house = new OutboxHouse();") ? 1 : 0, 1);
        OutboxHouse house = new OutboxHouse();
        for (int i = 1; i < lines.length; i++) {
            askAsTold(house, lines[i]);
        }
    }

    private static void rows(String readme) {
        for (Method method : OutboxHouse.class.getDeclaredMethods()) {
            if (Modifier.isPublic(method.getModifiers()) && !readme.contains("| `" + method.getName() + "(")) {
                Check.wrong("there is no row for " + method.getName());
            }
        }
    }

    public static void main(String[] args) throws java.io.IOException {
        String readme = Files.readString(Path.of("README.md"));
        Check.test("the example", () -> example(readme));
        Check.test("a row for each call", () -> rows(readme));
        Check.end();
    }
}
