import java.util.ArrayList;
import java.util.Arrays;
import java.util.HashMap;
import java.util.List;
import java.util.Map;

/** The document once more, in its plainest form, to compare the answers of Shortmessage with. */
final class PlainCentre {
    /** A part of a message. */
    private static final class Piece {
        int message;
        int number;
        List<Integer> signs;
        int receiver;
        int failures;
        int tryAt;
        boolean absent;
        boolean delivered;
    }

    private List<Integer> text = new ArrayList<>();
    private final List<List<Piece>> messages = new ArrayList<>();
    private final List<Integer> states = new ArrayList<>();
    private final List<Integer> ends = new ArrayList<>();
    private final List<Integer> receipts = new ArrayList<>();
    private final List<List<Piece>> queues = new ArrayList<>();
    private final List<List<Piece>> ways = new ArrayList<>();
    private final boolean[] up = {true, true, true};
    private final int[] tokens = {5, 5, 5};
    private final int[] windows = {2, 2, 2};
    private int time = 0;
    private final Map<Integer, Integer> serviceByKeyword = new HashMap<>();
    private final Map<Integer, int[]> sessions = new HashMap<>();

    PlainCentre() {
        for (int i = 0; i < 3; i++) {
            queues.add(new ArrayList<>());
            ways.add(new ArrayList<>());
        }
    }

    /** Answers a call by its name, with two arguments of which it uses those that it has. */
    Object call(String name, int a, int b) {
        switch (name) {
            case "write": return write(a, b);
            case "erase": return erase();
            case "isWide": return wide();
            case "septets": return septets();
            case "parts": return cut().size();
            case "signs": return part(a).size();
            case "octets": return packed(part(a)).size();
            case "octet": return octet(a, b);
            case "submit": return submit(a, b);
            case "state": return states.get(index(a, states.size()));
            case "missing": return missing(a);
            case "joined": return joined(a, b);
            case "receipts": return receipts.size();
            case "receipt": return receipts.get(index(a, receipts.size()));
            case "pass": return pass(a);
            case "time": return time;
            case "toggleLink": return toggleLink(a);
            case "setWindow": return setWindow(a, b);
            case "queued": return queues.get(index(a, 3)).size();
            case "underWay": return ways.get(index(a, 3)).size();
            case "tokens": return tokens[index(a, 3)];
            case "acknowledge": return acknowledge(a, b);
            case "alert": return alert(a);
            case "setKeyword": return setKeyword(a, b);
            case "come": return come(a, b);
            default: throw new AssertionError(name);
        }
    }

    private static int index(int value, int size) {
        if (value < 0 || value >= size) {
            throw new IndexOutOfBoundsException();
        }
        return value;
    }

    private static void range(int value, int from, int to) {
        if (value < from || value > to) {
            throw new IllegalArgumentException();
        }
    }

    private static void possible(boolean condition) {
        if (!condition) {
            throw new IllegalStateException();
        }
    }

    private int write(int sign, int times) {
        range(sign, 0, 999);
        range(times, 1, 200);
        possible(text.size() + times <= 400);
        for (int i = 0; i < times; i++) {
            text.add(sign);
        }
        return text.size();
    }

    private int erase() {
        int had = text.size();
        text = new ArrayList<>();
        return had;
    }

    private boolean wide() {
        return text.stream().anyMatch(sign -> sign >= 160);
    }

    private static List<Integer> septetsOf(List<Integer> signs) {
        List<Integer> septets = new ArrayList<>();
        for (int sign : signs) {
            if (sign >= 128) {
                septets.add(27);
            }
            septets.add(sign >= 128 ? sign - 128 : sign);
        }
        return septets;
    }

    private int septets() {
        possible(!wide());
        return septetsOf(text).size();
    }

    private int cost(List<Integer> signs) {
        return wide() ? signs.size() : septetsOf(signs).size();
    }

    private List<List<Integer>> cut() {
        List<List<Integer>> parts = new ArrayList<>();
        int whole = wide() ? 70 : 160;
        int room = cost(text) <= whole ? whole : wide() ? 67 : 153;
        int from = 0;
        while (from < text.size()) {
            int to = from + 1;
            while (to < text.size() && cost(text.subList(from, to + 1)) <= room) {
                to++;
            }
            parts.add(new ArrayList<>(text.subList(from, to)));
            from = to;
        }
        return parts;
    }

    private List<Integer> part(int part) {
        List<List<Integer>> parts = cut();
        return parts.get(index(part, parts.size()));
    }

    private List<Integer> packed(List<Integer> signs) {
        List<Integer> octets = new ArrayList<>();
        if (wide()) {
            for (int sign : signs) {
                octets.add(sign / 256);
                octets.add(sign % 256);
            }
            return octets;
        }
        StringBuilder bits = new StringBuilder();
        for (int septet : septetsOf(signs)) {
            String seven = Integer.toBinaryString(128 + septet).substring(1);
            bits.append(new StringBuilder(seven).reverse());
        }
        while (bits.length() % 8 != 0) {
            bits.append('0');
        }
        for (int i = 0; i < bits.length(); i += 8) {
            StringBuilder eight = new StringBuilder(bits.substring(i, i + 8)).reverse();
            octets.add(Integer.parseInt(eight.toString(), 2));
        }
        return octets;
    }

    private int octet(int part, int place) {
        List<Integer> octets = packed(part(part));
        return octets.get(index(place, octets.size()));
    }

    private int submit(int receiver, int validity) {
        range(receiver, 0, 8);
        range(validity, 1, 1000);
        possible(!text.isEmpty() && messages.size() < 20);
        List<Piece> pieces = new ArrayList<>();
        for (List<Integer> signs : cut()) {
            Piece piece = new Piece();
            piece.message = messages.size();
            piece.number = pieces.size();
            piece.signs = signs;
            piece.receiver = receiver;
            piece.tryAt = time;
            pieces.add(piece);
        }
        queues.get(receiver % 3).addAll(pieces);
        messages.add(pieces);
        states.add(0);
        ends.add(time + validity);
        erase();
        return messages.size() - 1;
    }

    private int missing(int message) {
        int set = 0;
        for (Piece piece : messages.get(index(message, messages.size()))) {
            set += piece.delivered ? 0 : 1 << piece.number;
        }
        return set;
    }

    private int joined(int message, int place) {
        List<Integer> signs = new ArrayList<>();
        for (Piece piece : messages.get(index(message, messages.size()))) {
            for (int sign : piece.signs) {
                signs.add(piece.delivered ? sign : -1);
            }
        }
        return signs.get(index(place, signs.size()));
    }

    private int pass(int ticks) {
        range(ticks, 1, 200);
        int sent = 0;
        for (int i = 0; i < ticks; i++) {
            time++;
            for (int m = 0; m < messages.size(); m++) {
                if (states.get(m) == 0 && ends.get(m) == time) {
                    finish(m, 3);
                }
            }
            for (int link = 0; link < 3; link++) {
                tokens[link] = Math.min(5, tokens[link] + 1);
                sent += send(link);
            }
        }
        return sent;
    }

    private int send(int link) {
        int sent = 0;
        List<Piece> queue = queues.get(link);
        int at = 0;
        while (up[link] && tokens[link] > 0 && ways.get(link).size() < windows[link] && at < queue.size()) {
            if (queue.get(at).absent || queue.get(at).tryAt > time) {
                at++;
                continue;
            }
            ways.get(link).add(queue.remove(at));
            tokens[link]--;
            sent++;
        }
        return sent;
    }

    private void finish(int message, int state) {
        states.set(message, state);
        receipts.add(10 * message + state);
        queues.forEach(queue -> queue.removeIf(piece -> piece.message == message));
    }

    private boolean toggleLink(int link) {
        index(link, 3);
        up[link] = !up[link];
        if (!up[link]) {
            List<Piece> back = new ArrayList<>(ways.get(link));
            ways.get(link).clear();
            back.removeIf(piece -> states.get(piece.message) != 0);
            back.forEach(piece -> piece.tryAt = time);
            queues.get(link).addAll(0, back);
        }
        return up[link];
    }

    private int setWindow(int link, int window) {
        index(link, 3);
        range(window, 1, 10);
        int before = windows[link];
        windows[link] = window;
        return before;
    }

    private int acknowledge(int link, int outcome) {
        index(link, 3);
        range(outcome, 0, 3);
        possible(!ways.get(link).isEmpty());
        Piece piece = ways.get(link).remove(0);
        int answer = 10 * piece.message + piece.number;
        if (states.get(piece.message) != 0) {
            return answer;
        }
        if (outcome == 0) {
            piece.delivered = true;
            if (messages.get(piece.message).stream().allMatch(other -> other.delivered)) {
                finish(piece.message, 1);
            }
            return answer;
        }
        piece.failures += outcome == 1 ? 1 : 0;
        if (outcome == 3 || piece.failures == 4) {
            finish(piece.message, 2);
            return answer;
        }
        piece.absent = outcome == 2;
        piece.tryAt = outcome == 1 ? time + Arrays.asList(0, 2, 4, 8).get(piece.failures) : time;
        queues.get(link).add(piece);
        return answer;
    }

    private int alert(int receiver) {
        range(receiver, 0, 8);
        int ended = 0;
        for (Piece piece : queues.get(receiver % 3)) {
            if (piece.absent && piece.receiver == receiver) {
                piece.absent = false;
                ended++;
            }
        }
        return ended;
    }

    private Object setKeyword(int service, int sign) {
        range(service, 1, 4);
        range(sign, -1, 999);
        serviceByKeyword.values().removeIf(other -> other == service);
        if (sign >= 0) {
            serviceByKeyword.put(sign, service);
        }
        return null;
    }

    private int come(int person, int sign) {
        range(person, 0, 8);
        range(sign, 0, 999);
        int[] session = sessions.get(person);
        if (serviceByKeyword.containsKey(sign)) {
            session = new int[] {serviceByKeyword.get(sign), 0};
        } else if (session == null || time - session[1] >= 20) {
            sessions.remove(person);
            return 0;
        }
        session[1] = time;
        sessions.put(person, session);
        return session[0];
    }
}
