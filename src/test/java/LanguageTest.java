import java.io.IOException;
import java.lang.reflect.Executable;
import java.lang.reflect.Field;
import java.lang.reflect.Modifier;
import java.nio.file.Files;
import java.nio.file.Path;
import java.util.ArrayList;
import java.util.Arrays;
import java.util.List;
import java.util.Set;
import java.util.regex.Matcher;
import java.util.regex.Pattern;

/**
 * Rules of LANGUAGE.md that show in the program's text or in its compiled classes; rule 1 is in
 * FaceTest.
 */
public final class LanguageTest {
    private static final int LONGEST_METHOD = 60;
    private static final int MOST_CLASSES = 12;
    private static final int MOST_FIELDS = 20;
    private static final int MOST_PARAMETERS = 7;
    private static final Set<String> EXCEPTIONS = Set.of("IllegalStateException",
            "IllegalArgumentException", "IndexOutOfBoundsException", "ArithmeticException",
            "UnsupportedOperationException", "NoSuchElementException", "RuntimeException");
    private static final Set<Class<?>> CONSTANTS = Set.of(int.class, long.class, boolean.class, char.class,
            String.class, int[].class, long[].class, char[].class, byte[].class);
    private static final Set<Class<?>> NUMBERS = Set.of(int.class, long.class, short.class, byte.class,
            char.class, boolean.class, double.class, float.class);
    private static final Set<String> LIBRARY = Set.of("Math.min", "Math.max", "Math.abs");

    public static void main(String[] args) throws IOException {
        Check.numbers("rule");
        String written = Files.readString(Path.of("src/main/java/CashRecycler.java"));
        String code = withoutComments(written);
        charactersAndImports(written, code);
        forbiddenWords(code);
        libraryCalls(code);
        thrownExceptions(code);
        methodLengths(written);
        List<Class<?>> classes = new ArrayList<>();
        classes.add(CashRecycler.class);
        classes.addAll(Arrays.asList(CashRecycler.class.getDeclaredClasses()));
        Check.due(11, classes.size() + " classes are few enough", true, classes.size() <= MOST_CLASSES);
        for (Class<?> type : classes) {
            shapeOf(type);
            fieldsOf(type);
        }
        Check.finish();
    }

    private static String withoutComments(String written) {
        return written.replaceAll("(?s)/\\*.*?\\*/", " ").replaceAll("//[^\n]*", " ");
    }

    private static void charactersAndImports(String written, String code) {
        for (int i = 0; i < written.length(); i++) {
            if (written.charAt(i) > 255) {
                Check.due(3, "a character beyond 255 at " + i, 0, written.charAt(i));
            }
        }
        Matcher line = Pattern.compile("(?m)^\\s*(import|package)\\b.*$").matcher(code);
        while (line.find()) {
            Check.same(4, "import", "import java.util.NoSuchElementException;", line.group().trim());
        }
    }

    private static void forbiddenWords(String code) {
        dueAbsent(2, code, "->", "::");
        dueAbsent(4, code, "Exact\\(", "\\bObjects\\b", "\\bStream\\b", "\\bgetMessage\\b");
        dueAbsent(5, code, "\\bstatic\\s*\\{");
        dueAbsent(6, code, "\\btry\\b", "\\bfinally\\b", "\\bsynchronized\\b", "\\bassert\\b");
        dueAbsent(13, code, "\\bSystem\\.(?!arraycopy)", "\\bThread\\b", "\\bRandom\\b");
    }

    private static void dueAbsent(int rule, String code, String... patterns) {
        for (String pattern : patterns) {
            Check.due(rule, "the code has " + pattern, false, Pattern.compile(pattern).matcher(code).find());
        }
    }

    /** Whatever is called on a name with a capital letter is the library's. */
    private static void libraryCalls(String code) {
        Matcher call = Pattern.compile("\\b[A-Z][a-z]\\w*\\.\\w+").matcher(code);
        while (call.find()) {
            Check.due(4, call.group() + " is of the library allowed", true, LIBRARY.contains(call.group()));
        }
    }

    private static void thrownExceptions(String code) {
        Matcher thrown = Pattern.compile("\\bthrow\\b\\s*([^;]*);").matcher(code);
        Pattern allowed = Pattern.compile("new (\\w+)\\((\"[^\"]*\")?\\)");
        while (thrown.find()) {
            Matcher made = allowed.matcher(thrown.group(1));
            Check.due(6, "throw " + thrown.group(1), true, made.matches() && EXCEPTIONS.contains(made.group(1)));
        }
    }

    /** A method, like any block, ends at the '}' that stands below its first letter. */
    private static void methodLengths(String written) {
        String[] lines = written.split("\n");
        Pattern head = Pattern.compile("( {4}| {8})\\S.*\\(.*");
        for (int i = 0; i < lines.length; i++) {
            if (head.matcher(lines[i]).matches() && !lines[i].endsWith(";")) {
                String close = lines[i].replaceAll("\\S.*", "") + "}";
                int length = Arrays.asList(lines).subList(i, lines.length).indexOf(close) + 1;
                Check.due(11, "line " + (i + 1) + " begins a short method of " + length, true,
                        length <= LONGEST_METHOD);
            }
        }
    }

    private static void shapeOf(Class<?> type) {
        if (type != CashRecycler.class) {
            int bits = type.getModifiers();
            Check.due(1, type + " is static", true, Modifier.isStatic(bits));
            Check.due(1, type + " is hidden", false, Modifier.isPublic(bits) || Modifier.isProtected(bits));
        }
        List<Executable> all = new ArrayList<>();
        all.addAll(Arrays.asList(type.getDeclaredMethods()));
        all.addAll(Arrays.asList(type.getDeclaredConstructors()));
        for (Executable one : all) {
            Check.due(11, one + " has few parameters", true, one.getParameterCount() <= MOST_PARAMETERS);
        }
    }

    private static void fieldsOf(Class<?> type) {
        int own = 0;
        for (Field field : type.getDeclaredFields()) {
            if (Modifier.isStatic(field.getModifiers())) {
                Check.due(5, field + " is final", true, Modifier.isFinal(field.getModifiers()));
                Check.due(5, field + " is a constant", true, CONSTANTS.contains(field.getType()));
            } else {
                own++;
                Check.due(3, field + " has a type allowed", true, isAllowed(field.getType()));
            }
        }
        Check.due(11, type + " has few fields: " + own, true, own <= MOST_FIELDS);
    }

    private static boolean isAllowed(Class<?> type) {
        if (type.isArray()) {
            Class<?> part = type.getComponentType();
            return NUMBERS.contains(part.isArray() ? part.getComponentType() : part);
        }
        return NUMBERS.contains(type) || type.getEnclosingClass() == CashRecycler.class;
    }
}
