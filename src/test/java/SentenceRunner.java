import java.lang.reflect.InvocationTargetException;
import java.lang.reflect.Method;
import java.util.ArrayList;
import java.util.Arrays;
import java.util.Comparator;
import java.util.List;

/** Runs the tests of a class that bear a sentence, each one for itself, and names those that fail. */
final class SentenceRunner {
    private SentenceRunner() {
    }

    static List<Method> testsOf(Class<?> type) {
        List<Method> tests = new ArrayList<>();
        for (Method method : type.getDeclaredMethods()) {
            if (method.isAnnotationPresent(Sentence.class)) {
                tests.add(method);
            }
        }
        tests.sort(Comparator.comparing(Method::getName));
        return tests;
    }

    static void run(Class<?> type) {
        List<Method> tests = testsOf(type);
        int failed = 0;
        for (Method test : tests) {
            if (!holds(test)) {
                failed++;
                Sentence sentence = test.getAnnotation(Sentence.class);
                System.out.println("FAILED: " + test.getName()
                        + ", " + sentence.at() + " says: " + sentence.says());
            }
        }
        System.out.println(type.getSimpleName() + ": " + tests.size() + " sentences tested, " + failed + " failed");
        if (failed != 0 || tests.isEmpty()) {
            System.exit(1);
        }
    }

    private static boolean holds(Method test) {
        Check check = new Check();
        try {
            test.setAccessible(true);
            test.invoke(null, check);
        } catch (InvocationTargetException e) {
            System.out.println(test.getName() + " threw " + e.getCause());
            return false;
        } catch (IllegalAccessException e) {
            throw new AssertionError(e);
        }
        return check.allAsDue();
    }

    static Class<?>[] all() {
        return new Class<?>[] {
            TextSentencesTest.class, MessageSentencesTest.class, LinkSentencesTest.class,
            IncomingSentencesTest.class, ExceptionSentencesTest.class,
        };
    }

    static List<Method> everyTest() {
        List<Method> tests = new ArrayList<>();
        Arrays.stream(all()).forEach(type -> tests.addAll(testsOf(type)));
        return tests;
    }
}
