import java.io.IOException;
import java.lang.reflect.InvocationTargetException;
import java.lang.reflect.Method;
import java.nio.file.Files;
import java.nio.file.Path;
import java.util.regex.Matcher;
import java.util.regex.Pattern;

/** Each call that README.md shows answers, in its order there, what its comment begins with. */
public final class ReadmeTest {
    private static final Pattern CALL = Pattern.compile("(?m)^x\\.(\\w+)\\((.*?)\\); *// (-?\\w+)");

    public static void main(String[] args) throws IOException {
        EdgeFinder x = new EdgeFinder();
        Matcher call = CALL.matcher(Files.readString(Path.of("README.md")));
        int shown = 0;
        while (call.find()) {
            shown++;
            Object got = answer(x, methodOf(call.group(1)), call.group(2).split(", "));
            Checks.due("README.md: " + call.group(1) + "(" + call.group(2) + ")", got, call.group(3));
        }
        Checks.due("calls were shown", shown > 0, true);
        Checks.end();
    }

    private static Method methodOf(String name) {
        for (Method method : EdgeFinder.class.getMethods()) {
            if (method.getName().equals(name)) {
                return method;
            }
        }
        throw new AssertionError("no method " + name);
    }

    private static Object answer(EdgeFinder x, Method method, String[] written) {
        Object[] numbers = new Object[written.length];
        for (int k = 0; k < written.length; k++) {
            boolean truth = method.getParameterTypes()[k] == boolean.class;
            numbers[k] = truth ? (Object) Boolean.valueOf(written[k]) : (Object) Integer.valueOf(written[k]);
        }
        try {
            Object got = method.invoke(x, numbers);
            return method.getReturnType() == void.class ? "nothing" : got;
        } catch (InvocationTargetException e) {
            return e.getCause().getClass().getSimpleName();
        } catch (IllegalAccessException e) {
            throw new AssertionError(e);
        }
    }
}
