import java.lang.reflect.Method;
import java.lang.reflect.Modifier;
import java.nio.file.Files;
import java.nio.file.Path;
import java.util.regex.Matcher;
import java.util.regex.Pattern;

/** README.md tells the truth: each call of its example answers what stands behind it, and it names every call. */
final class ReadmeTest extends Check {
    private static final Pattern CALL = Pattern.compile("x\\.(\\w+)\\((.*)\\);\\s*// (-?\\d+|true|false):.*");

    public static void main(String[] args) throws Exception {
        String page = Files.readString(Path.of("README.md"));
        promise = "README.md";
        example(page);
        listOfCalls(page);
        conclude();
    }

    private static void example(String page) throws Exception {
        RingsUnder x = new RingsUnder();
        int begin = page.indexOf("```java\n");
        String code = page.substring(begin + 8, page.indexOf("```", begin + 8));
        int calls = 0;
        for (String line : code.split("\n")) {
            Matcher m = CALL.matcher(line);
            boolean isCall = m.matches();
            due("is a call with its answer: " + line, isCall, line.startsWith("x."));
            if (isCall) {
                calls++;
                due(line, String.valueOf(answer(x, m.group(1), m.group(2))), m.group(3));
            }
        }
        due("there are calls in the example", calls > 0, true);
    }

    private static Object answer(RingsUnder x, String name, String arguments) throws Exception {
        String[] told = arguments.isEmpty() ? new String[0] : arguments.split(",\\s*");
        for (Method method : RingsUnder.class.getDeclaredMethods()) {
            if (method.getName().equals(name) && method.getParameterCount() == told.length) {
                Object[] values = new Object[told.length];
                for (int i = 0; i < told.length; i++) {
                    values[i] = value(told[i], method.getParameterTypes()[i]);
                }
                return method.invoke(x, values);
            }
        }
        return "no such call";
    }

    private static Object value(String told, Class<?> type) {
        if (type == boolean.class) {
            return Boolean.valueOf(told);
        }
        long number = Long.decode(told);
        return type == int.class ? (Object) (int) number : (Object) number;
    }

    private static void listOfCalls(String page) {
        String list = page.substring(page.indexOf("The calls:"), page.indexOf("## Tests"));
        for (Method method : RingsUnder.class.getDeclaredMethods()) {
            if (Modifier.isPublic(method.getModifiers())) {
                due("names " + method.getName(), list.contains("`" + method.getName() + "`"), true);
            }
        }
    }
}
