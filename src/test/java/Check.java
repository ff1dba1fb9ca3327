import java.util.function.Function;
import java.util.function.Supplier;

/** Counts and prints the answers that are not as due. */
final class Check {
    /** Answers of calls that throw. */
    static final String INDEX = "throws.IndexOutOfBoundsException";
    static final String ARGUMENT = "throws.IllegalArgumentException";
    static final String STATE = "throws.IllegalStateException";

    private int wrong = 0;
    private int made = 0;

    /** The answer of a call, or the exact class of what it throws. */
    static String answer(Supplier<Object> call) {
        try {
            return String.valueOf(call.get());
        } catch (RuntimeException e) {
            return "throws." + e.getClass().getSimpleName();
        }
    }

    void due(String what, Object want, Supplier<Object> call) {
        made++;
        String got = answer(call);
        if (!got.equals(String.valueOf(want))) {
            wrong++;
            System.out.println(what + " answered " + got + ", due is " + want);
        }
    }

    /** A wrong call throws what is due, and everything that the centre answers stays the same. */
    void refuses(Shortmessage centre, String what, String exception, Supplier<Object> call) {
        String before = Snapshot.of(centre);
        due(what, "throws." + exception, call);
        due("what stands after " + what, before, () -> Snapshot.of(centre));
    }

    /** A wrong call throws what is due, and then the centre goes on like a twin that was spared the call. */
    void changesNothing(String what, String want, Supplier<Shortmessage> made, Function<Shortmessage, Object> call) {
        Shortmessage centre = made.get();
        due(what, want, () -> call.apply(centre));
        due("the centre after " + what, Probe.of(made.get()), () -> Probe.of(centre));
    }

    boolean allAsDue() {
        return wrong == 0 && made > 0;
    }

    void end(String name) {
        System.out.println(name + ": " + made + " answers, " + wrong + " not as due");
        if (wrong != 0) {
            System.exit(1);
        }
    }
}
