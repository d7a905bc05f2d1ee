import java.lang.reflect.Constructor;
import java.lang.reflect.Field;
import java.lang.reflect.Method;
import java.lang.reflect.Modifier;
import java.util.ArrayList;
import java.util.Arrays;
import java.util.List;
import java.util.TreeSet;

/** The public face is the document's and nothing more (rule 1 of LANGUAGE.md). */
public final class FaceTest {
    private static final String[] FACE = {
        "int insert(int) IllegalArgumentException IllegalStateException",
        "int verdict(int) IllegalArgumentException IllegalStateException",
        "void deposit() IllegalStateException",
        "void confirm() IllegalStateException",
        "void giveBack() IllegalStateException",
        "int payout(int) IllegalArgumentException IllegalStateException UnsupportedOperationException",
        "int plan(int,int) IllegalArgumentException",
        "int step(int) IllegalArgumentException",
        "int taken()",
        "void stick(int) IllegalArgumentException NoSuchElementException",
        "void open() IllegalStateException",
        "int remove(int) IllegalStateException IllegalArgumentException NoSuchElementException",
        "boolean free(int) IllegalStateException IllegalArgumentException",
        "int close() IllegalStateException",
        "boolean power()",
        "boolean service() IllegalStateException",
        "void kind(int,int) IllegalStateException IllegalArgumentException UnsupportedOperationException",
        "int refill(int,int) IllegalStateException IllegalArgumentException",
        "int empty(int) IllegalStateException IllegalArgumentException",
        "int state()",
        "int notes(int,int) IllegalArgumentException",
        "int cassette(int,int) IllegalArgumentException",
        "int belt(int,int) IllegalArgumentException",
        "int balance()"};

    public static void main(String[] args) {
        Check.numbers("rule");
        Class<?> type = CashRecycler.class;
        Check.due(1, "public and final", Modifier.PUBLIC | Modifier.FINAL, type.getModifiers());
        List<String> open = new ArrayList<>();
        List<String> hidden = new ArrayList<>();
        for (Method method : type.getDeclaredMethods()) {
            if (Modifier.isPrivate(method.getModifiers())) {
                hidden.add(method.getName());
            } else {
                open.add(written(method));
            }
        }
        Check.due(1, "methods " + open, true,
                new TreeSet<>(open).equals(new TreeSet<>(Arrays.asList(FACE))));
        for (String name : hidden) {
            Check.due(1, "private " + name + " has a name of the face", false, isOfFace(name));
        }
        for (Field field : type.getDeclaredFields()) {
            Check.due(1, field.getName() + " is private", true, Modifier.isPrivate(field.getModifiers()));
        }
        Constructor<?>[] constructors = type.getDeclaredConstructors();
        Check.due(1, "constructors", 1, constructors.length);
        Check.due(1, "its modifiers", Modifier.PUBLIC, constructors[0].getModifiers());
        Check.due(1, "its parameters", 0, constructors[0].getParameterCount());
        Check.finish();
    }

    private static boolean isOfFace(String name) {
        for (String line : FACE) {
            if (line.contains(" " + name + "(")) {
                return true;
            }
        }
        return false;
    }

    private static String written(Method method) {
        List<String> parameters = new ArrayList<>();
        for (Class<?> parameter : method.getParameterTypes()) {
            parameters.add(parameter.getSimpleName());
        }
        StringBuilder line = new StringBuilder();
        line.append(method.getReturnType().getSimpleName()).append(' ').append(method.getName());
        line.append('(').append(String.join(",", parameters)).append(')');
        for (Class<?> thrown : method.getExceptionTypes()) {
            line.append(' ').append(thrown.getSimpleName());
        }
        return line.toString();
    }
}
