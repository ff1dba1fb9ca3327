/** What a centre answers to a long fixed run of calls, which changes it; fewer than 400 calls, as it has only 512. */
final class Probe {
    private static final int ROUNDS = 6;

    private final StringBuilder all = new StringBuilder();
    private final Shortmessage x;

    private Probe(Shortmessage x) {
        this.x = x;
    }

    static String of(Shortmessage x) {
        Probe probe = new Probe(x);
        probe.addText();
        probe.addMessages();
        probe.addReception();
        for (int round = 0; round < ROUNDS; round++) {
            probe.addRound(round);
        }
        probe.addMessages();
        return probe.all.toString();
    }

    private void add(String name, Object value) {
        all.append(name).append(' ').append(value).append('\n');
    }

    private void addText() {
        add("isWide", x.isWide());
        add("septets", Check.answer(x::septets));
        int parts = x.parts();
        add("parts", parts);
        for (int p = 0; p < parts; p++) {
            int octets = x.octets(p);
            add("signs", x.signs(p));
            add("octets", octets);
            add("first octet", x.octet(p, 0));
            add("last octet", x.octet(p, octets - 1));
        }
        add("erase", x.erase());
    }

    private void addMessages() {
        for (int m = 0; m < 20; m++) {
            int message = m;
            String state = Check.answer(() -> x.state(message));
            add("state", state);
            if (state.equals(Check.INDEX)) {
                break;
            }
            add("missing", x.missing(m));
            add("joined", x.joined(m, 0));
        }
        int receipts = x.receipts();
        for (int r = 0; r < receipts; r++) {
            add("receipt", x.receipt(r));
        }
    }

    private void addReception() {
        for (int person = 0; person < 9; person++) {
            add("session", x.come(person, 990));
        }
        for (int sign = 0; sign < 9; sign++) {
            add("keyword", x.come(0, sign));
        }
    }

    private void addRound(int round) {
        add("pass", x.pass(1 << round));
        add("time", x.time());
        for (int l = 0; l < 3; l++) {
            int link = l;
            add("window", x.setWindow(l, 2 + round / 2));
            add("queued", x.queued(l));
            add("underWay", x.underWay(l));
            add("tokens", x.tokens(l));
            add("acknowledge", Check.answer(() -> x.acknowledge(link, round % 2)));
            add("acknowledge", Check.answer(() -> x.acknowledge(link, 0)));
        }
        add("toggleLink", x.toggleLink(round % 3));
        add("alert", x.alert(round));
    }
}
