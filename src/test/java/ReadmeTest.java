import java.io.IOException;
import java.lang.reflect.Method;
import java.lang.reflect.Modifier;
import java.nio.file.Files;
import java.nio.file.Path;
import java.util.regex.Matcher;
import java.util.regex.Pattern;

/** README.md: its example answers what it says, and its list has every call. */
public final class ReadmeTest {
    private static final Pattern EXAMPLE = Pattern.compile("(?s)```java\n(.*?)```");
    private static final Pattern CALL = Pattern.compile("x\\.(\\w+)\\((.*?)\\);(?:\\s*// (-?\\d+|true|false):.*)?");
    private static final Pattern LISTED = Pattern.compile("(?m)^\\| `(\\w+)\\((.*?)\\)` \\|");

    public static void main(String[] args) throws IOException, ReflectiveOperationException {
        String text = Files.readString(Path.of("README.md"));
        example(text);
        list(text);
        Due.end();
    }

    private static void example(String text) throws ReflectiveOperationException {
        Matcher block = EXAMPLE.matcher(text);
        Due.due("README.md has an example", block.find(), true);
        String[] lines = block.group(1).split("\n");
        Due.due("it begins with a new object: " + lines[0],
            lines[0].equals("OrdersMadeOne x = new OrdersMadeOne();"), true);
        OrdersMadeOne x = new OrdersMadeOne();
        for (int k = 1; k < lines.length; k++) {
            Matcher call = CALL.matcher(lines[k]);
            boolean isCall = call.matches();
            Due.due("a call of the example: " + lines[k], isCall, true);
            if (isCall) {
                Object answer = ask(x, call.group(1), call.group(2));
                String want = call.group(3) == null ? "null" : call.group(3);
                Due.due("in README.md (" + answer + "): " + lines[k], want.equals(String.valueOf(answer)), true);
            }
        }
    }

    private static Object ask(OrdersMadeOne x, String name, String told) throws ReflectiveOperationException {
        Method method = named(name);
        String[] texts = told.isEmpty() ? new String[0] : told.split(", ");
        Object[] arguments = new Object[texts.length];
        for (int k = 0; k < texts.length; k++) {
            boolean isTruth = texts[k].equals("true") || texts[k].equals("false");
            arguments[k] = isTruth ? (Object) Boolean.valueOf(texts[k]) : (Object) Integer.decode(texts[k]);
        }
        return method.invoke(x, arguments);
    }

    private static Method named(String name) throws NoSuchMethodException {
        for (Method method : OrdersMadeOne.class.getDeclaredMethods()) {
            if (Modifier.isPublic(method.getModifiers()) && method.getName().equals(name)) {
                return method;
            }
        }
        throw new NoSuchMethodException(name);
    }

    private static void list(String text) throws ReflectiveOperationException {
        Matcher listed = LISTED.matcher(text);
        int count = 0;
        while (listed.find()) {
            count++;
            int parameters = listed.group(2).isEmpty() ? 0 : listed.group(2).split(", ").length;
            Due.due("parameters of " + listed.group(1), parameters, named(listed.group(1)).getParameterCount());
        }
        int calls = 0;
        for (Method method : OrdersMadeOne.class.getDeclaredMethods()) {
            if (Modifier.isPublic(method.getModifiers())) {
                calls++;
                Due.due("listed: " + method.getName(), text.contains("\n| `" + method.getName() + "("), true);
            }
        }
        Due.due("calls that are listed", count, calls);
    }
}
