import java.io.IOException;
import java.lang.reflect.InvocationTargetException;
import java.lang.reflect.Method;
import java.nio.file.Files;
import java.nio.file.Path;
import java.util.regex.Matcher;
import java.util.regex.Pattern;

/** Makes the calls of README.md's examples; what begins the comment behind a call is the answer due. */
public final class ReadmeTest {
    private static final String NEW_OBJECT = "CashRecycler x = new CashRecycler();";
    private static final Pattern CALL = Pattern.compile("x\\.(\\w+)\\(([-\\d, ]*)\\);\\s*// (.*)");
    private static final Pattern ANSWER = Pattern.compile("(-?\\d+|true|false|throws \\w+)\\b.*");

    private static int examples = 0;
    private static CashRecycler x = null;

    public static void main(String[] args) throws IOException {
        Check.numbers("example");
        boolean inside = false;
        for (String line : Files.readAllLines(Path.of("README.md"))) {
            if (line.startsWith("```")) {
                inside = line.equals("```java");
            } else if (inside) {
                follow(line);
            }
        }
        Check.due(examples, "examples in README.md", true, examples >= 4);
        Check.finish();
    }

    private static void follow(String line) {
        if (line.equals(NEW_OBJECT)) {
            examples++;
            x = new CashRecycler();
            return;
        }
        Matcher call = CALL.matcher(line);
        Check.due(examples, "'" + line + "' is a call with a comment", true, call.matches());
        if (call.matches()) {
            Check.same(examples, line, due(call.group(3)), answer(call.group(1), call.group(2)));
        }
    }

    private static String due(String comment) {
        Matcher answer = ANSWER.matcher(comment);
        return answer.matches() ? answer.group(1) : "nothing";
    }

    private static String answer(String name, String written) {
        String[] texts = written.isEmpty() ? new String[0] : written.split(", ");
        Class<?>[] types = new Class<?>[texts.length];
        Object[] numbers = new Object[texts.length];
        for (int i = 0; i < texts.length; i++) {
            types[i] = int.class;
            numbers[i] = Integer.valueOf(texts[i]);
        }
        try {
            Method method = CashRecycler.class.getMethod(name, types);
            Object answered = method.invoke(x, numbers);
            return method.getReturnType() == void.class ? "nothing" : answered.toString();
        } catch (InvocationTargetException e) {
            return "throws " + e.getCause().getClass().getSimpleName();
        } catch (ReflectiveOperationException e) {
            return "no such call";
        }
    }
}
