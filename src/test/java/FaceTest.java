import java.lang.reflect.Constructor;
import java.lang.reflect.Field;
import java.lang.reflect.Method;
import java.lang.reflect.Modifier;
import java.util.Arrays;
import java.util.TreeSet;

/** The face is exactly that of the document. */
public final class FaceTest {
    private static final Check CHECK = new Check();

    private static final String[] FACE = {
        "int write(int, int)", "int erase()", "boolean isWide()", "int septets()", "int parts()",
        "int signs(int)", "int octets(int)", "int octet(int, int)", "int submit(int, int)", "int state(int)",
        "int missing(int)", "int joined(int, int)", "int receipts()", "int receipt(int)", "int pass(int)",
        "int time()", "boolean toggleLink(int)", "int setWindow(int, int)", "int queued(int)",
        "int underWay(int)", "int tokens(int)", "int acknowledge(int, int)", "int alert(int)",
        "void setKeyword(int, int)", "int come(int, int)",
    };

    private FaceTest() {
    }

    public static void main(String[] args) {
        TreeSet<String> methods = new TreeSet<>();
        for (Method method : Shortmessage.class.getDeclaredMethods()) {
            if (!Modifier.isPrivate(method.getModifiers())) {
                methods.add(said(method));
            }
        }
        CHECK.due("methods", new TreeSet<>(Arrays.asList(FACE)), () -> methods);
        CHECK.due("final", true, () -> Modifier.isFinal(Shortmessage.class.getModifiers()));
        for (Field field : Shortmessage.class.getDeclaredFields()) {
            CHECK.due(field.getName() + " is private", true, () -> Modifier.isPrivate(field.getModifiers()));
        }
        Constructor<?>[] constructors = Shortmessage.class.getDeclaredConstructors();
        CHECK.due("constructors", 1, () -> constructors.length);
        CHECK.due("constructor", "public Shortmessage()", () -> constructors[0].toString());
        CHECK.end("FaceTest");
    }

    private static String said(Method method) {
        StringBuilder parameters = new StringBuilder();
        for (Class<?> type : method.getParameterTypes()) {
            parameters.append(parameters.length() == 0 ? "" : ", ").append(type.getName());
        }
        return method.getReturnType().getName() + " " + method.getName() + "(" + parameters + ")";
    }
}
