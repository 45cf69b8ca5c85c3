import java.io.IOException;
import java.lang.reflect.Method;
import java.lang.reflect.Modifier;
import java.nio.charset.StandardCharsets;
import java.nio.file.Files;
import java.nio.file.Path;
import java.util.regex.Matcher;
import java.util.regex.Pattern;

/** README.md says how to use the class: its example answers what it says, and it names every call. Runs from the project's folder. */
public final class ReadmeTest {
    private static final Pattern TEXT = Pattern.compile("String text = \"([^\"]*)\";");
    private static final Pattern CALL = Pattern.compile("\nx\\.(\\w+)\\(([^)]*)\\); +// (-?\\d+)");
    private static final int FEWEST_CALLS = 10;

    public static void main(String[] args) throws IOException, ReflectiveOperationException {
        String readme = Files.readString(Path.of("README.md"), StandardCharsets.UTF_8);
        example(readme);
        everyCallIsNamed(readme);
        Check.due("it says how to run the tests", readme.contains("`.ci/run`") ? 1 : 0, 1);
        Check.finish("ReadmeTest");
    }

    private static void example(String readme) throws ReflectiveOperationException {
        Matcher text = TEXT.matcher(readme);
        Check.due("the example has a text", text.find() ? 1 : 0, 1);
        CubeDays x = new CubeDays();
        Check.feed(x, text.group(1));
        Matcher call = CALL.matcher(readme);
        int calls = 0;
        while (call.find()) {
            calls++;
            Check.due(call.group(1) + "(" + call.group(2) + ")", made(x, call.group(1), call.group(2)),
                    Integer.parseInt(call.group(3)));
        }
        Check.due("the example has calls", calls >= FEWEST_CALLS ? 1 : 0, 1);
    }

    private static int made(CubeDays x, String name, String told) throws ReflectiveOperationException {
        for (Method method : CubeDays.class.getMethods()) {
            if (method.getName().equals(name) && method.getReturnType() == int.class) {
                return (Integer) method.invoke(x, arguments(method, told));
            }
        }
        throw new NoSuchMethodException(name);
    }

    private static Object[] arguments(Method method, String told) {
        String[] parts = told.isEmpty() ? new String[0] : told.split(", ");
        Object[] all = new Object[parts.length];
        for (int i = 0; i < parts.length; i++) {
            boolean isNumber = method.getParameterTypes()[i] == int.class;
            all[i] = isNumber ? (Object) Integer.valueOf(parts[i]) : (Object) Boolean.valueOf(parts[i]);
        }
        return all;
    }

    private static void everyCallIsNamed(String readme) {
        for (Method method : CubeDays.class.getDeclaredMethods()) {
            if (Modifier.isPublic(method.getModifiers())) {
                Check.due("it names " + method.getName(), readme.contains("`" + method.getName() + "`") ? 1 : 0, 1);
            }
        }
    }
}
