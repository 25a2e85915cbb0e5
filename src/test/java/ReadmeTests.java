import java.io.IOException;
import java.lang.reflect.InvocationTargetException;
import java.lang.reflect.Method;
import java.nio.charset.StandardCharsets;
import java.nio.file.Files;
import java.nio.file.Path;
import java.util.regex.Matcher;
import java.util.regex.Pattern;

/** That the calls which README.md shows, made on one object in their order, are answered as it says. */
public final class ReadmeTests {
    private static final Pattern CALL = Pattern.compile("x\\.(\\w+)\\((.*)\\); *// (-?\\d+): .*");
    private static final int FEWEST = 30;

    public static void main(String[] args) throws IOException, IllegalAccessException, InvocationTargetException {
        MossPilots x = new MossPilots();
        int wrong = 0;
        int calls = 0;
        for (String line : Files.readAllLines(Path.of("README.md"), StandardCharsets.UTF_8)) {
            if (!line.startsWith("x.")) {
                continue;
            }
            Matcher call = CALL.matcher(line);
            calls++;
            if (!call.matches()) {
                wrong++;
                System.out.println("no call with its answer: " + line);
            } else if (answer(x, call.group(1), call.group(2)) != Long.parseLong(call.group(3))) {
                wrong++;
                System.out.println("another answer is due: " + line);
            }
        }
        System.out.println(calls + " calls of README.md, " + wrong + " wrong");
        if (wrong != 0 || calls < FEWEST) {
            System.exit(1);
        }
    }

    private static long answer(MossPilots x, String name, String list)
            throws IllegalAccessException, InvocationTargetException {
        String[] texts = list.isEmpty() ? new String[0] : list.split(", ");
        for (Method method : MossPilots.class.getMethods()) {
            if (method.getName().equals(name) && method.getParameterCount() == texts.length) {
                Object[] values = new Object[texts.length];
                for (int k = 0; k < texts.length; k++) {
                    values[k] = value(method.getParameterTypes()[k], texts[k]);
                }
                return ((Number) method.invoke(x, values)).longValue();
            }
        }
        throw new IllegalStateException("no such call: " + name);
    }

    private static Object value(Class<?> type, String text) {
        if (type == boolean.class) {
            return Boolean.valueOf(text);
        }
        long number = Long.decode(text);
        return type == int.class ? (Object) (int) number : (Object) number;
    }
}
