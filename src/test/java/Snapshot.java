/** What a centre answers without being changed, in one text; few calls, as an object has only 512. */
final class Snapshot {
    private Snapshot() {
    }

    static String of(Shortmessage x) {
        StringBuilder all = new StringBuilder();
        add(all, "septets", Check.answer(x::septets));
        add(all, "parts", x.parts());
        add(all, "receipts", x.receipts());
        add(all, "time", x.time());
        for (int l = 0; l < 3; l++) {
            add(all, "queued", x.queued(l));
            add(all, "underWay", x.underWay(l));
            add(all, "tokens", x.tokens(l));
        }
        addMessages(all, x);
        return all.toString();
    }

    private static void addMessages(StringBuilder all, Shortmessage x) {
        for (int m = 0; m < 20; m++) {
            int message = m;
            String state = Check.answer(() -> x.state(message));
            if (state.startsWith("throws.")) {
                return;
            }
            add(all, "state", state);
            add(all, "missing", x.missing(message));
        }
    }

    private static void add(StringBuilder all, String name, Object value) {
        all.append(name).append(' ').append(value).append('\n');
    }
}
