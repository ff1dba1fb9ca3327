import java.util.function.Supplier;

/** Counts and prints the answers that are not as due. */
final class Check {
    private int wrong = 0;
    private int made = 0;

    /** The answer of a call, or the exact class of what it throws. */
    static String answer(Supplier<Object> call) {
        try {
            return String.valueOf(call.get());
        } catch (RuntimeException e) {
            return "throws." + e.getClass().getSimpleName();
        }
    }

    void due(String what, Object want, Supplier<Object> call) {
        made++;
        String got = answer(call);
        if (!got.equals(String.valueOf(want))) {
            wrong++;
            System.out.println(what + " answered " + got + ", due is " + want);
        }
    }

    /** A wrong call throws what is due, and everything that the centre answers stays the same. */
    void refuses(Shortmessage centre, String what, String exception, Supplier<Object> call) {
        String before = Snapshot.of(centre);
        due(what, "throws." + exception, call);
        due("what stands after " + what, before, () -> Snapshot.of(centre));
    }

    void end(String name) {
        System.out.println(name + ": " + made + " answers, " + wrong + " not as due");
        if (wrong != 0) {
            System.exit(1);
        }
    }
}
