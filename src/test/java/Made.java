import java.util.List;

/** Centres as tests need them. */
final class Made {
    private Made() {
    }

    /** With a text of one sign, written several times. */
    static Shortmessage text(int sign, int count) {
        Shortmessage x = new Shortmessage();
        more(x, sign, count);
        return x;
    }

    /** With a text of these signs, each written once. */
    static Shortmessage signs(int... signs) {
        Shortmessage x = new Shortmessage();
        for (int sign : signs) {
            x.write(sign, 1);
        }
        return x;
    }

    static void more(Shortmessage x, int sign, int count) {
        for (int left = count; left > 0; left -= 200) {
            x.write(sign, Math.min(left, 200));
        }
    }

    /** With a message of one part for each of these receivers, valid for 1000 ticks. */
    static Shortmessage messagesFor(int... receivers) {
        Shortmessage x = new Shortmessage();
        for (int receiver : receivers) {
            submit(x, receiver, 1000);
        }
        return x;
    }

    /** Submits a message of one part. */
    static void submit(Shortmessage x, int receiver, int validity) {
        x.write(1, 1);
        x.submit(receiver, validity);
    }

    /** Submits a message of so many wide parts; from two on they are of 67 signs, and the last one of 4. */
    static void submitParts(Shortmessage x, int parts, int receiver, int validity) {
        more(x, 500, 67 * (parts - 1) + 4);
        x.submit(receiver, validity);
    }

    /** All octets of a part of the text. */
    static String octets(Shortmessage x, int part) {
        StringBuilder all = new StringBuilder();
        int count = x.octets(part);
        for (int i = 0; i < count; i++) {
            all.append(i == 0 ? "" : " ").append(x.octet(part, i));
        }
        return all.toString();
    }

    /** What comes of acknowledging a link with the same outcome several times. */
    static String acknowledged(Shortmessage x, int link, int outcome, int times) {
        StringBuilder all = new StringBuilder();
        for (int i = 0; i < times; i++) {
            all.append(i == 0 ? "" : " ").append(x.acknowledge(link, outcome));
        }
        return all.toString();
    }

    static String receipts(Shortmessage x) {
        StringBuilder all = new StringBuilder();
        int count = x.receipts();
        for (int i = 0; i < count; i++) {
            all.append(i == 0 ? "" : " ").append(x.receipt(i));
        }
        return all.toString();
    }

    static String states(Shortmessage x, int count) {
        StringBuilder all = new StringBuilder();
        for (int i = 0; i < count; i++) {
            all.append(i == 0 ? "" : " ").append(x.state(i));
        }
        return all.toString();
    }

    /** Lets this number of ticks pass, also more than 200. */
    static int pass(Shortmessage x, int ticks) {
        int sent = 0;
        for (int left = ticks; left > 0; left -= 200) {
            sent += x.pass(Math.min(left, 200));
        }
        return sent;
    }

    /** Numbers around the ends of a range that lie outside it, and the farthest ones. */
    static List<Integer> outside(int from, int to) {
        return List.of(from - 1, to + 1, Integer.MIN_VALUE, Integer.MAX_VALUE);
    }
}
