import java.io.IOException;
import java.lang.reflect.InvocationTargetException;
import java.lang.reflect.Method;
import java.lang.reflect.Modifier;
import java.nio.file.Files;
import java.nio.file.Path;
import java.util.regex.Matcher;
import java.util.regex.Pattern;

/** README.md: the run that it tells answers what it says, and it tells every call. */
public final class ReadmeTest {
    private static final Pattern CALL = Pattern.compile("x\\.(\\w+)\\((.*?)\\); +// (-?\\d+)\\b.*");

    private static final WordsTold x = new WordsTold();

    public static void main(String[] args) throws IOException {
        String readme = Files.readString(Path.of("README.md"));
        run(block(readme));
        calls(readme);
        Due.end();
    }

    private static String block(String readme) {
        int from = readme.indexOf("```java");
        int to = readme.indexOf("```", from + 1);
        return from >= 0 && to >= 0 ? readme.substring(from, to) : "";
    }

    private static void run(String block) {
        for (String line : block.split("\n")) {
            Matcher call = CALL.matcher(line);
            if (call.matches()) {
                Due.due("README: " + line, answer(call.group(1), call.group(2)), Long.parseLong(call.group(3)));
            } else {
                Due.due("README, a line that is no call: " + line, line.contains("x.") ? 1 : 0, 0);
            }
        }
    }

    private static long answer(String name, String told) {
        for (Method method : WordsTold.class.getMethods()) {
            if (method.getName().equals(name)) {
                return answer(method, told.isEmpty() ? new String[0] : told.split(", "));
            }
        }
        return Long.MIN_VALUE;
    }

    private static long answer(Method method, String[] told) {
        Class<?>[] types = method.getParameterTypes();
        Object[] values = new Object[types.length];
        for (int i = 0; i < types.length && types.length == told.length; i++) {
            values[i] = value(types[i], told[i].replace("L", ""));
        }
        try {
            return (Integer) method.invoke(x, values);
        } catch (IllegalAccessException | InvocationTargetException e) {
            throw new IllegalStateException(method.toString(), e);
        }
    }

    private static Object value(Class<?> type, String told) {
        if (type == boolean.class) {
            return Boolean.valueOf(told);
        }
        long number = Long.decode(told);
        if (type == long.class) {
            return number;
        }
        return (int) number;
    }

    private static void calls(String readme) {
        for (Method method : WordsTold.class.getDeclaredMethods()) {
            if (Modifier.isPublic(method.getModifiers())) {
                String name = method.getName();
                Due.due("README tells " + name, readme.contains("| `" + name + "(") ? 1 : 0, 1);
                Due.due("README's run has " + name, block(readme).contains("x." + name + "(") ? 1 : 0, 1);
            }
        }
    }
}
