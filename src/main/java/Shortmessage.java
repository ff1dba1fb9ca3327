import java.util.Arrays;

/** A text message centre: texts in parts, throttled links, receipts, and incoming texts by keywords. */
public final class Shortmessage {

    private static final int MOST_SIGN = 999;
    private static final int MOST_TIMES = 200;
    private static final int MOST_SIGNS = 400;

    private static final int FIRST_ESCAPED_SIGN = 128;
    private static final int FIRST_WIDE_SIGN = 160;
    private static final int ESCAPE = 27;

    private static final int SEPTETS_OF_ONE_PART = 160;
    private static final int SEPTETS_OF_A_CUT_PART = 153;
    private static final int WIDE_SIGNS_OF_ONE_PART = 70;
    private static final int WIDE_SIGNS_OF_A_CUT_PART = 67;

    /** 400 escaped signs take 800 septets, and no part but the last one leaves more than one of 153 free. */
    private static final int MOST_PARTS = 6;

    private static final int MOST_MESSAGES = 20;
    private static final int RECEIVERS = 9;
    private static final int MOST_VALIDITY = 1000;

    private static final int WAITING = 0;
    private static final int DELIVERED = 1;
    private static final int REJECTED = 2;
    private static final int EXPIRED = 3;

    private static final int LINKS = 3;
    private static final int MOST_TOKENS = 5;
    private static final int FIRST_WINDOW = 2;
    private static final int MOST_WINDOW = 10;
    private static final int MOST_TICKS = 200;

    private static final int PART_DELIVERED = 0;
    private static final int PART_BUSY = 1;
    private static final int PART_ABSENT = 2;
    private static final int PART_REJECTED = 3;
    private static final int MOST_FAILURES = 4;

    private static final int PERSONS = 9;
    private static final int SERVICES = 5;
    private static final int DEFAULT_SERVICE = 0;
    private static final int NO_KEYWORD = -1;
    private static final int SESSION_TICKS = 20;

    private final Text text = new Text();
    private final Message[] messages = new Message[MOST_MESSAGES];
    private int messageCount = 0;
    private final int[] receiptRow = new int[MOST_MESSAGES];
    private int receiptCount = 0;
    private final Link[] links = new Link[LINKS];
    private final Reception reception = new Reception();
    private int now = 0;

    public Shortmessage() {
        for (int i = 0; i < links.length; i++) {
            links[i] = new Link();
        }
    }

    // ---- the text that is written

    public int write(int sign, int times) throws IllegalArgumentException, IllegalStateException {
        if (sign < 0 || sign > MOST_SIGN || times < 1 || times > MOST_TIMES) {
            throw new IllegalArgumentException("sign or times out of range");
        }
        if (text.count + times > MOST_SIGNS) {
            throw new IllegalStateException("the text would be too long");
        }
        text.append(sign, times);
        return text.count;
    }

    public int erase() {
        int had = text.count;
        text.clear();
        return had;
    }

    public boolean isWide() {
        return text.wide;
    }

    public int septets() throws IllegalStateException {
        if (text.wide) {
            throw new IllegalStateException("the text is wide");
        }
        return text.septetCount;
    }

    public int parts() {
        return text.partCount;
    }

    public int signs(int part) throws IndexOutOfBoundsException {
        requirePart(part);
        return text.startOf(part + 1) - text.startOf(part);
    }

    public int octets(int part) throws IndexOutOfBoundsException {
        requirePart(part);
        return text.octetsOf(part);
    }

    public int octet(int part, int place) throws IndexOutOfBoundsException {
        requirePart(part);
        if (place < 0 || place >= text.octetsOf(part)) {
            throw new IndexOutOfBoundsException("no such place");
        }
        return text.octetAt(part, place);
    }

    private void requirePart(int part) {
        if (part < 0 || part >= text.partCount) {
            throw new IndexOutOfBoundsException("no such part");
        }
    }

    // ---- messages

    public int submit(int receiver, int validity) throws IllegalArgumentException, IllegalStateException {
        requireReceiver(receiver);
        if (validity < 1 || validity > MOST_VALIDITY) {
            throw new IllegalArgumentException("validity out of range");
        }
        if (text.count == 0 || messageCount >= messages.length) {
            throw new IllegalStateException("no text, or no room for a message");
        }
        Message message = new Message(messageCount, receiver, now + validity, linkOf(receiver), text);
        messages[messageCount] = message;
        messageCount++;
        for (int part = 0; part < message.partCount; part++) {
            message.link.queue.addLast(new Part(message, part, now));
        }
        text.clear();
        return message.number;
    }

    public int state(int message) throws IndexOutOfBoundsException {
        return messageAt(message).state;
    }

    public int missing(int message) throws IndexOutOfBoundsException {
        return messageAt(message).lacking;
    }

    public int joined(int message, int place) throws IndexOutOfBoundsException {
        Message asked = messageAt(message);
        if (place < 0 || place >= asked.signs.length) {
            throw new IndexOutOfBoundsException("no such place");
        }
        return asked.lacks(asked.partWith(place)) ? -1 : asked.signs[place];
    }

    public int receipts() {
        return receiptCount;
    }

    public int receipt(int receipt) throws IndexOutOfBoundsException {
        if (receipt < 0 || receipt >= receiptCount || receipt >= receiptRow.length) {
            throw new IndexOutOfBoundsException("no such receipt");
        }
        return receiptRow[receipt];
    }

    private Message messageAt(int number) {
        if (number < 0 || number >= messageCount || number >= messages.length || messages[number] == null) {
            throw new IndexOutOfBoundsException("no such message");
        }
        return messages[number];
    }

    private void requireReceiver(int receiver) {
        if (receiver < 0 || receiver >= RECEIVERS) {
            throw new IllegalArgumentException("receiver out of range");
        }
    }

    /** Ends the waiting of a message; what of it is under way stays so. */
    private void finish(Message message, int state) {
        message.state = state;
        message.link.queue.removeAllOf(message);
        if (receiptCount < receiptRow.length) {
            receiptRow[receiptCount] = 10 * message.number + state;
            receiptCount++;
        }
    }

    // ---- links and time

    public int pass(int ticks) throws IllegalArgumentException {
        if (ticks < 1 || ticks > MOST_TICKS) {
            throw new IllegalArgumentException("ticks out of range");
        }
        int sent = 0;
        for (int i = 0; i < ticks; i++) {
            now++;
            expireMessages();
            sent += sendParts();
        }
        return sent;
    }

    public int time() {
        return now;
    }

    public boolean toggleLink(int link) throws IndexOutOfBoundsException {
        Link toggled = linkAt(link);
        if (toggled.up) {
            toggled.goDown(now);
        } else {
            toggled.up = true;
        }
        return toggled.up;
    }

    public int setWindow(int link, int window) throws IndexOutOfBoundsException, IllegalArgumentException {
        Link changed = linkAt(link);
        if (window < 1 || window > MOST_WINDOW) {
            throw new IllegalArgumentException("window out of range");
        }
        int before = changed.window;
        changed.window = window;
        return before;
    }

    public int queued(int link) throws IndexOutOfBoundsException {
        return linkAt(link).queue.count;
    }

    public int underWay(int link) throws IndexOutOfBoundsException {
        return linkAt(link).sent.count;
    }

    public int tokens(int link) throws IndexOutOfBoundsException {
        return linkAt(link).tokens;
    }

    public int acknowledge(int link, int outcome)
            throws IndexOutOfBoundsException, IllegalArgumentException, IllegalStateException {
        Link told = linkAt(link);
        if (outcome < PART_DELIVERED || outcome > PART_REJECTED) {
            throw new IllegalArgumentException("outcome out of range");
        }
        Part part = told.sent.removeAt(0);
        if (part == null) {
            throw new IllegalStateException("no part is under way");
        }
        if (part.message.state == WAITING) {
            settle(part, outcome);
        }
        return 10 * part.message.number + part.number;
    }

    public int alert(int receiver) throws IllegalArgumentException {
        requireReceiver(receiver);
        return linkOf(receiver).queue.wake(receiver);
    }

    private Link linkAt(int link) {
        if (link < 0 || link >= links.length) {
            throw new IndexOutOfBoundsException("no such link");
        }
        return links[link];
    }

    private Link linkOf(int receiver) {
        return linkAt(receiver % LINKS);
    }

    private void expireMessages() {
        for (int i = 0; i < messageCount && i < messages.length; i++) {
            Message message = messages[i];
            if (message != null && message.state == WAITING && now >= message.end) {
                finish(message, EXPIRED);
            }
        }
    }

    private int sendParts() {
        int sent = 0;
        for (int i = 0; i < links.length; i++) {
            links[i].gainToken();
            sent += links[i].sendAll(now);
        }
        return sent;
    }

    /** Does with a part of a waiting message, which is nowhere now, what its outcome asks. */
    private void settle(Part part, int outcome) {
        Message message = part.message;
        switch (outcome) {
            case PART_DELIVERED:
                message.receive(part.number);
                if (message.lacking == 0) {
                    finish(message, DELIVERED);
                }
                break;
            case PART_BUSY:
                part.failures++;
                if (part.failures >= MOST_FAILURES) {
                    finish(message, REJECTED);
                } else {
                    part.tryAt = now + (1 << part.failures);
                    message.link.queue.addLast(part);
                }
                break;
            case PART_ABSENT:
                part.waitsForAlert = true;
                message.link.queue.addLast(part);
                break;
            default:
                finish(message, REJECTED);
                break;
        }
    }

    // ---- incoming texts

    public void setKeyword(int service, int sign) throws IllegalArgumentException {
        if (service <= DEFAULT_SERVICE || service >= SERVICES || sign < NO_KEYWORD || sign > MOST_SIGN) {
            throw new IllegalArgumentException("service or sign out of range");
        }
        reception.giveKeyword(service, sign);
    }

    public int come(int person, int sign) throws IllegalArgumentException {
        if (person < 0 || person >= PERSONS || sign < 0 || sign > MOST_SIGN) {
            throw new IllegalArgumentException("person or sign out of range");
        }
        return reception.serviceFor(person, sign, now);
    }

    /** The text that is written, with the places at which it would be cut. */
    private static final class Text {
        private final int[] row = new int[MOST_SIGNS];
        private int count = 0;
        private int septetCount = 0;
        private boolean wide = false;
        /** The first sign of each part, and behind the last part the number of signs. */
        private final int[] starts = new int[MOST_PARTS + 1];
        private int partCount = 0;

        void append(int sign, int times) {
            for (int i = 0; i < times && count < row.length; i++) {
                row[count] = sign;
                count++;
                septetCount += septetsOf(sign);
            }
            wide = wide || sign >= FIRST_WIDE_SIGN;
            cut();
        }

        void clear() {
            count = 0;
            septetCount = 0;
            wide = false;
            partCount = 0;
        }

        int startOf(int part) {
            return part >= 0 && part <= partCount && part < starts.length ? starts[part] : count;
        }

        int octetsOf(int part) {
            if (wide) {
                return 2 * (startOf(part + 1) - startOf(part));
            }
            return (7 * septetsIn(part) + 7) / 8;
        }

        int octetAt(int part, int place) {
            if (wide) {
                int sign = signAt(startOf(part) + place / 2);
                return place % 2 == 0 ? sign / 256 : sign % 256;
            }
            int firstBit = 8 * place;
            int low = septetAt(part, firstBit / 7);
            int high = septetAt(part, firstBit / 7 + 1);
            return (low | high << 7) >> firstBit % 7 & 255;
        }

        int[] copyOfSigns() {
            return Arrays.copyOf(row, count);
        }

        int[] copyOfStarts() {
            return Arrays.copyOf(starts, partCount + 1);
        }

        private int signAt(int place) {
            return place >= 0 && place < count && place < row.length ? row[place] : 0;
        }

        private void cut() {
            int room = roomOfAPart();
            int used = 0;
            partCount = 1;
            starts[0] = 0;
            for (int i = 0; i < count; i++) {
                int size = wide ? 1 : septetsOf(signAt(i));
                if (used + size > room && partCount < MOST_PARTS) {
                    starts[partCount] = i;
                    partCount++;
                    used = 0;
                }
                used += size;
            }
            starts[partCount] = count;
        }

        private int roomOfAPart() {
            if (wide) {
                return count <= WIDE_SIGNS_OF_ONE_PART ? WIDE_SIGNS_OF_ONE_PART : WIDE_SIGNS_OF_A_CUT_PART;
            }
            return septetCount <= SEPTETS_OF_ONE_PART ? SEPTETS_OF_ONE_PART : SEPTETS_OF_A_CUT_PART;
        }

        private int septetsIn(int part) {
            int sum = 0;
            int end = startOf(part + 1);
            for (int i = startOf(part); i < end; i++) {
                sum += septetsOf(signAt(i));
            }
            return sum;
        }

        /** A septet of a part of a small text, or 0 behind its last one: what is lacking at the end is 0. */
        private int septetAt(int part, int index) {
            int before = 0;
            int end = startOf(part + 1);
            for (int i = startOf(part); i < end; i++) {
                int sign = signAt(i);
                int size = septetsOf(sign);
                if (index < before + size) {
                    return septetOf(sign, index - before);
                }
                before += size;
            }
            return 0;
        }

        private static int septetsOf(int sign) {
            return sign < FIRST_ESCAPED_SIGN ? 1 : 2;
        }

        private static int septetOf(int sign, int index) {
            if (sign < FIRST_ESCAPED_SIGN) {
                return sign;
            }
            return index == 0 ? ESCAPE : sign - FIRST_ESCAPED_SIGN;
        }
    }

    /** A text that has been submitted. */
    private static final class Message {
        private final int number;
        private final int receiver;
        private final int end;
        private final Link link;
        private final int[] signs;
        private final int[] starts;
        private final int partCount;
        private int state = WAITING;
        /** The parts that have not been delivered: bit p for part p. */
        private int lacking;

        Message(int number, int receiver, int end, Link link, Text text) {
            this.number = number;
            this.receiver = receiver;
            this.end = end;
            this.link = link;
            this.signs = text.copyOfSigns();
            this.starts = text.copyOfStarts();
            this.partCount = text.partCount;
            this.lacking = (1 << text.partCount) - 1;
        }

        boolean lacks(int part) {
            return (lacking >> part & 1) == 1;
        }

        void receive(int part) {
            lacking &= ~(1 << part);
        }

        int partWith(int place) {
            int part = 0;
            for (int i = 1; i < starts.length; i++) {
                if (place >= starts[i]) {
                    part = i;
                }
            }
            return part;
        }
    }

    /** A part of a message; while its message waits and it is not delivered, it is queued or under way. */
    private static final class Part {
        private final Message message;
        private final int number;
        private int failures = 0;
        private int tryAt;
        private boolean waitsForAlert = false;

        Part(Message message, int number, int tryAt) {
            this.message = message;
            this.number = number;
            this.tryAt = tryAt;
        }

        boolean isReady(int now) {
            return !waitsForAlert && tryAt <= now;
        }
    }

    /** Parts in an order, with room for all that there can be. */
    private static final class Row {
        private final Part[] row = new Part[MOST_MESSAGES * MOST_PARTS];
        private int count = 0;

        Part at(int place) {
            return place >= 0 && place < count && place < row.length ? row[place] : null;
        }

        void addLast(Part part) {
            insert(count, part);
        }

        void insert(int place, Part part) {
            if (place < 0 || place > count || count >= row.length) {
                return;
            }
            for (int i = count; i > place; i--) {
                row[i] = row[i - 1];
            }
            row[place] = part;
            count++;
        }

        /** Takes a part out of the row; null if there is none at the place. */
        Part removeAt(int place) {
            Part part = at(place);
            if (part == null) {
                return null;
            }
            for (int i = place + 1; i < count; i++) {
                row[i - 1] = row[i];
            }
            count--;
            row[count] = null;
            return part;
        }

        /** Takes the first part that can be sent; null if there is none. */
        Part removeFirstReady(int now) {
            for (int i = 0; i < count; i++) {
                Part part = at(i);
                if (part != null && part.isReady(now)) {
                    return removeAt(i);
                }
            }
            return null;
        }

        void removeAllOf(Message message) {
            for (int i = count - 1; i >= 0; i--) {
                Part part = at(i);
                if (part != null && part.message == message) {
                    removeAt(i);
                }
            }
        }

        /** Ends the waiting for an alert of a receiver; answers how many parts waited for it. */
        int wake(int receiver) {
            int woken = 0;
            for (int i = 0; i < count; i++) {
                Part part = at(i);
                if (part != null && part.waitsForAlert && part.message.receiver == receiver) {
                    part.waitsForAlert = false;
                    woken++;
                }
            }
            return woken;
        }
    }

    /** A throttled link with its queue, and what is under way on it in the order of sending. */
    private static final class Link {
        private final Row queue = new Row();
        private final Row sent = new Row();
        private boolean up = true;
        private int window = FIRST_WINDOW;
        private int tokens = MOST_TOKENS;

        void gainToken() {
            if (tokens < MOST_TOKENS) {
                tokens++;
            }
        }

        /** Sends what can be sent now, never more than there are tokens; answers how many parts. */
        int sendAll(int now) {
            for (int parts = 0; parts < MOST_TOKENS; parts++) {
                if (!sendNext(now)) {
                    return parts;
                }
            }
            return MOST_TOKENS;
        }

        private boolean sendNext(int now) {
            if (!up || tokens < 1 || sent.count >= window) {
                return false;
            }
            Part part = queue.removeFirstReady(now);
            if (part == null) {
                return false;
            }
            sent.addLast(part);
            tokens--;
            return true;
        }

        void goDown(int now) {
            up = false;
            int returned = 0;
            int under = sent.count;
            for (int i = 0; i < under; i++) {
                Part part = sent.removeAt(0);
                if (part != null && part.message.state == WAITING) {
                    part.tryAt = now;
                    queue.insert(returned, part);
                    returned++;
                }
            }
        }
    }

    /** Where incoming texts go: keywords of services, and sessions of persons. */
    private static final class Reception {
        private final int[] keywords = new int[SERVICES];
        /** The service of each person's session; the default service stands for no session. */
        private final int[] sessions = new int[PERSONS];
        private final int[] latest = new int[PERSONS];

        Reception() {
            Arrays.fill(keywords, NO_KEYWORD);
        }

        void giveKeyword(int service, int sign) {
            for (int i = 0; i < keywords.length; i++) {
                if (i == service) {
                    keywords[i] = sign;
                } else if (keywords[i] == sign) {
                    keywords[i] = NO_KEYWORD;
                }
            }
        }

        int serviceFor(int person, int sign, int now) {
            if (person < 0 || person >= sessions.length || person >= latest.length) {
                return DEFAULT_SERVICE;
            }
            int called = serviceWith(sign);
            if (called != DEFAULT_SERVICE) {
                sessions[person] = called;
            } else if (now - latest[person] >= SESSION_TICKS) {
                sessions[person] = DEFAULT_SERVICE;
            }
            latest[person] = now;
            return sessions[person];
        }

        private int serviceWith(int sign) {
            for (int i = DEFAULT_SERVICE + 1; i < keywords.length; i++) {
                if (keywords[i] == sign) {
                    return i;
                }
            }
            return DEFAULT_SERVICE;
        }
    }
}
