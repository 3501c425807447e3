import java.io.IOException;
import java.lang.reflect.Method;
import java.nio.file.Files;
import java.nio.file.Path;
import java.util.regex.Matcher;
import java.util.regex.Pattern;

/** The calls that README.md shows answer the numbers that stand behind them. */
public final class ReadmeTest {
    private static final Pattern CALL = Pattern.compile("x\\.(\\w+)\\((.*)\\); +// (-?\\d+)(:.*)?");
    private static final String NEW = "MotionFloor x = new MotionFloor();";
    private static final int LEAST_CALLS = 40;

    public static void main(String[] args) throws IOException, ReflectiveOperationException {
        MotionFloor x = null;
        boolean inCode = false;
        int calls = 0;
        for (String line : Files.readAllLines(Path.of("README.md"))) {
            if (line.startsWith("```")) {
                inCode = line.equals("```java");
            } else if (inCode && line.equals(NEW)) {
                x = new MotionFloor();
            } else if (inCode) {
                Matcher call = CALL.matcher(line);
                boolean plain = call.matches();
                Due.due("'" + line + "' is a call with its answer", plain ? 1 : 0, 1);
                if (plain) {
                    Due.due(line, answer(x, call.group(1), call.group(2)), Integer.parseInt(call.group(3)));
                    calls++;
                }
            }
        }
        Due.due("README.md shows calls", calls >= LEAST_CALLS ? 1 : 0, 1);
        Due.end();
    }

    private static int answer(MotionFloor x, String name, String list) throws ReflectiveOperationException {
        String[] words = list.isEmpty() ? new String[0] : list.split(", ");
        Object[] numbers = new Object[words.length];
        for (int i = 0; i < words.length; i++) {
            numbers[i] = words[i].equals("MotionFloor.NONE") ? MotionFloor.NONE : Integer.parseInt(words[i]);
        }
        for (Method method : MotionFloor.class.getMethods()) {
            if (method.getName().equals(name) && method.getParameterCount() == numbers.length) {
                return (Integer) method.invoke(x, numbers);
            }
        }
        throw new NoSuchMethodException(name);
    }
}
