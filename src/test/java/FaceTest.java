import java.lang.reflect.Constructor;
import java.lang.reflect.Field;
import java.lang.reflect.Method;
import java.lang.reflect.Modifier;
import java.util.Arrays;
import java.util.TreeSet;

/** The face is exactly that of the document. */
public final class FaceTest {
    private static final Check CHECK = new Check();

    private static final String INDEX = " throws IndexOutOfBoundsException";
    private static final String ARGUMENT = " throws IllegalArgumentException";
    private static final String STATE = " throws IllegalStateException";

    private static final String[] FACE = {
        "int write(int, int)" + ARGUMENT + STATE, "int erase()", "boolean isWide()", "int septets()" + STATE,
        "int parts()", "int signs(int)" + INDEX, "int octets(int)" + INDEX, "int octet(int, int)" + INDEX,
        "int submit(int, int)" + ARGUMENT + STATE, "int state(int)" + INDEX, "int missing(int)" + INDEX,
        "int joined(int, int)" + INDEX, "int receipts()", "int receipt(int)" + INDEX, "int pass(int)" + ARGUMENT,
        "int time()", "boolean toggleLink(int)" + INDEX, "int setWindow(int, int)" + INDEX + ARGUMENT,
        "int queued(int)" + INDEX, "int underWay(int)" + INDEX, "int tokens(int)" + INDEX,
        "int acknowledge(int, int)" + INDEX + ARGUMENT + STATE, "int alert(int)" + ARGUMENT,
        "void setKeyword(int, int)" + ARGUMENT, "int come(int, int)" + ARGUMENT,
    };

    private FaceTest() {
    }

    public static void main(String[] args) {
        TreeSet<String> methods = new TreeSet<>();
        for (Method method : Shortmessage.class.getDeclaredMethods()) {
            if (!Modifier.isPrivate(method.getModifiers())) {
                methods.add(said(method));
                CHECK.due(method.getName() + " is public", "public", () -> Modifier.toString(method.getModifiers()));
            }
        }
        CHECK.due("methods", new TreeSet<>(Arrays.asList(FACE)), () -> methods);
        CHECK.due("the class", "public final", () -> Modifier.toString(Shortmessage.class.getModifiers()));
        for (Field field : Shortmessage.class.getDeclaredFields()) {
            CHECK.due(field.getName() + " is private", true, () -> Modifier.isPrivate(field.getModifiers()));
        }
        Constructor<?>[] constructors = Shortmessage.class.getDeclaredConstructors();
        CHECK.due("constructors", 1, () -> constructors.length);
        CHECK.due("constructor", "public Shortmessage()", () -> constructors[0].toString());
        CHECK.end("FaceTest");
    }

    private static String said(Method method) {
        StringBuilder parameters = new StringBuilder();
        for (Class<?> type : method.getParameterTypes()) {
            parameters.append(parameters.length() == 0 ? "" : ", ").append(type.getName());
        }
        StringBuilder exceptions = new StringBuilder();
        for (Class<?> exception : method.getExceptionTypes()) {
            exceptions.append(" throws ").append(exception.getSimpleName());
        }
        return method.getReturnType().getName() + " " + method.getName() + "(" + parameters + ")" + exceptions;
    }
}
