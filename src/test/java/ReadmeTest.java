import java.io.IOException;
import java.lang.reflect.InvocationTargetException;
import java.lang.reflect.Method;
import java.lang.reflect.Modifier;
import java.nio.charset.StandardCharsets;
import java.nio.file.Files;
import java.nio.file.Path;
import java.util.List;
import java.util.Set;
import java.util.TreeSet;
import java.util.regex.Matcher;
import java.util.regex.Pattern;

/** README.md tells the truth: its run of calls answers as it says, and its tables name each call and its exceptions. */
public final class ReadmeTest {
    private static final Path README = Path.of("README.md");
    private static final Check CHECK = new Check();

    /** A call of the run with its answer, which ends at a colon: centre.write(104, 1); // 1: so many signs */
    private static final Pattern CALL = Pattern.compile("centre\\.(\\w+)\\(([^)]*)\\);\\s*// ([^:]+)(:.*)?");

    /** A row of a table: | `write(sign, times)`: what it takes | what it answers | what it throws | */
    private static final Pattern ROW = Pattern.compile("\\| `(\\w+)\\(([^)]*)\\)`[^|]*\\|[^|]*\\|([^|]*)\\|");

    private ReadmeTest() {
    }

    public static void main(String[] args) throws IOException {
        List<String> lines = Files.readAllLines(README, StandardCharsets.UTF_8);
        runAnswersAsItSays(lines);
        tablesNameTheFace(lines);
        CHECK.end("ReadmeTest");
    }

    private static void runAnswersAsItSays(List<String> lines) {
        Shortmessage centre = new Shortmessage();
        long calls = lines.stream().filter(line -> line.startsWith("centre.")).count();
        CHECK.due("README.md has a run", true, () -> calls > 0);
        for (String line : lines) {
            if (line.startsWith("centre.")) {
                Matcher call = CALL.matcher(line);
                CHECK.due("'" + line + "' tells its answer", true, call::matches);
                if (call.matches()) {
                    CHECK.due(line, call.group(3), () -> answer(centre, call.group(1), call.group(2)));
                }
            }
        }
    }

    private static void tablesNameTheFace(List<String> lines) {
        Set<String> told = new TreeSet<>();
        for (String line : lines) {
            Matcher row = ROW.matcher(line);
            if (row.matches()) {
                told.add(signature(row.group(1), arguments(row.group(2)).size(), arguments(row.group(3))));
            }
        }
        Set<String> due = new TreeSet<>();
        for (Method method : Shortmessage.class.getDeclaredMethods()) {
            if (Modifier.isPublic(method.getModifiers())) {
                Set<String> thrown = new TreeSet<>();
                for (Class<?> exception : method.getExceptionTypes()) {
                    thrown.add(exception.getSimpleName());
                }
                due.add(signature(method.getName(), method.getParameterCount(), thrown));
            }
        }
        CHECK.due("the calls in the tables", due, () -> told);
    }

    private static String signature(String name, int parameters, Iterable<String> exceptions) {
        Set<String> sorted = new TreeSet<>();
        exceptions.forEach(sorted::add);
        return name + "/" + parameters + " throws " + sorted;
    }

    private static List<String> arguments(String list) {
        return list.isBlank() ? List.of() : List.of(list.trim().split(", "));
    }

    private static Object answer(Shortmessage centre, String name, String list) {
        List<String> arguments = arguments(list);
        Class<?>[] types = new Class<?>[arguments.size()];
        Object[] values = new Object[arguments.size()];
        for (int i = 0; i < values.length; i++) {
            types[i] = int.class;
            values[i] = Integer.valueOf(arguments.get(i));
        }
        try {
            Object answer = Shortmessage.class.getMethod(name, types).invoke(centre, values);
            return answer == null ? "nothing" : answer;
        } catch (InvocationTargetException e) {
            return e.getCause().getClass().getSimpleName();
        } catch (ReflectiveOperationException e) {
            return e;
        }
    }
}
