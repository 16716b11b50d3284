import java.io.IOException;
import java.lang.reflect.Method;
import java.nio.file.Files;
import java.nio.file.Path;
import java.util.regex.Matcher;
import java.util.regex.Pattern;

/** README.md's example, call by call, with the answers that it tells. To be run from the project's folder. */
public final class ReadmeTest {
    private static final Pattern CALL = Pattern.compile("land\\.(\\w+)\\(([^;]*)\\); +// (-?\\d+)");
    private static final int LEAST_CALLS = 40;

    public static void main(String[] args) throws IOException, ReflectiveOperationException {
        String readme = Files.readString(Path.of("README.md"));
        int begin = readme.indexOf("```java\n") + "```java\n".length();
        String example = readme.substring(begin, readme.indexOf("```\n", begin));
        FameAhead land = new FameAhead();
        int calls = 0;
        for (String line : example.split("\n")) {
            Matcher call = CALL.matcher(line);
            if (call.matches()) {
                Due.is(line, answer(land, call.group(1), call.group(2)), Long.parseLong(call.group(3)));
                calls++;
            } else {
                boolean isCall = line.startsWith("land.");
                Due.is("a line that is no call with its answer: " + line, isCall ? 1 : 0, 0);
            }
        }
        Due.is("calls in the example are enough: " + calls, calls >= LEAST_CALLS ? 1 : 0, 1);
        everyCallIsNamed(readme);
        Due.close();
    }

    private static long answer(FameAhead land, String name, String with) throws ReflectiveOperationException {
        String[] told = with.isEmpty() ? new String[0] : with.split(", ");
        for (Method method : FameAhead.class.getMethods()) {
            if (method.getName().equals(name) && method.getParameterCount() == told.length) {
                Object[] values = new Object[told.length];
                for (int i = 0; i < told.length; i++) {
                    long value = told[i].startsWith("'") ? told[i].charAt(1) : Long.parseLong(told[i]);
                    boolean isLong = method.getParameterTypes()[i] == long.class;
                    values[i] = isLong ? (Object) value : (Object) (int) value;
                }
                return ((Number) method.invoke(land, values)).longValue();
            }
        }
        throw new NoSuchMethodException(name);
    }

    private static void everyCallIsNamed(String readme) {
        for (Method method : FameAhead.class.getDeclaredMethods()) {
            boolean isShown = java.lang.reflect.Modifier.isPublic(method.getModifiers());
            boolean isNamed = readme.contains("`" + method.getName() + "`");
            Due.is("README.md doesn't name " + method.getName(), isShown && !isNamed ? 1 : 0, 0);
        }
    }
}
