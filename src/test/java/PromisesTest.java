/** One test or more for each promise: ordinary inputs, edges and wrong inputs. */
public final class PromisesTest {
    private static final Check CHECK = new Check();
    private static final String INDEX = "IndexOutOfBoundsException";
    private static final String ARGUMENT = "IllegalArgumentException";
    private static final String STATE = "IllegalStateException";

    private PromisesTest() {
    }

    public static void main(String[] args) {
        aNewObject();
        write();
        erase();
        isWide();
        septets();
        partsOfSmallTexts();
        partsOfWideTexts();
        signs();
        octets();
        octetOfSmallTexts();
        octetOfWideTexts();
        submit();
        submitRefuses();
        state();
        expiry();
        missing();
        joined();
        receipts();
        pass();
        passSkipsWhatIsNotReady();
        time();
        toggleLink();
        toggleLinkDropsParts();
        setWindow();
        queuedAndUnderWay();
        tokens();
        acknowledge();
        busy();
        absent();
        rejectedPart();
        outcomeOfAnEndedMessage();
        alert();
        setKeyword();
        come();
        CHECK.end("PromisesTest");
    }

    private static void due(String what, Object want, java.util.function.Supplier<Object> call) {
        CHECK.due(what, want, call);
    }

    /** A centre with one message of one part for each receiver that is named. */
    private static Shortmessage withMessagesFor(int... receivers) {
        Shortmessage x = new Shortmessage();
        for (int receiver : receivers) {
            x.write(receiver, 1);
            x.submit(receiver, 1000);
        }
        return x;
    }

    private static Shortmessage withText(int sign, int count) {
        Shortmessage x = new Shortmessage();
        for (int left = count; left > 0; left -= 200) {
            x.write(sign, Math.min(left, 200));
        }
        return x;
    }

    // Promise 1

    private static void aNewObject() {
        Shortmessage x = new Shortmessage();
        due("1: parts", 0, x::parts);
        due("1: septets", 0, x::septets);
        due("1: isWide", false, x::isWide);
        due("1: erase", 0, x::erase);
        due("1: receipts", 0, x::receipts);
        due("1: time", 0, x::time);
        due("1: no message", "throws." + INDEX, () -> x.state(0));
        for (int l = 0; l < 3; l++) {
            int link = l;
            due("1: queued", 0, () -> x.queued(link));
            due("1: underWay", 0, () -> x.underWay(link));
            due("1: tokens", 5, () -> x.tokens(link));
            due("1: window", 2, () -> x.setWindow(link, 2));
            due("1: is up", false, () -> x.toggleLink(link));
        }
    }

    // Promise 2

    private static void write() {
        Shortmessage x = new Shortmessage();
        due("2: the lowest sign", 1, () -> x.write(0, 1));
        due("2: the highest sign", 3, () -> x.write(999, 2));
        due("2: most times", 203, () -> x.write(5, 200));
        for (int sign : new int[] {-1, 1000, Integer.MIN_VALUE, Integer.MAX_VALUE}) {
            CHECK.refuses(x, "2: sign " + sign, ARGUMENT, () -> x.write(sign, 1));
        }
        for (int times : new int[] {0, -1, 201, Integer.MIN_VALUE, Integer.MAX_VALUE}) {
            CHECK.refuses(x, "2: times " + times, ARGUMENT, () -> x.write(1, times));
        }
        CHECK.refuses(x, "2: 401 signs", STATE, () -> x.write(1, 198));
        due("2: 400 signs", 400, () -> x.write(1, 197));
        CHECK.refuses(x, "2: one more", STATE, () -> x.write(1, 1));
        CHECK.refuses(x, "2: argument before state", ARGUMENT, () -> x.write(1000, 1));
        CHECK.refuses(x, "2: argument before state", ARGUMENT, () -> x.write(1, 201));
    }

    // Promise 3

    private static void erase() {
        Shortmessage x = withText(500, 71);
        due("3: erase", 71, x::erase);
        due("3: erase again", 0, x::erase);
        due("3: parts", 0, x::parts);
        due("3: isWide", false, x::isWide);
        due("3: septets", 0, x::septets);
        due("3: write from the start", 2, () -> x.write(3, 2));
        due("3: octet", 131, () -> x.octet(0, 0));
    }

    // Promise 4

    private static void isWide() {
        Shortmessage x = withText(159, 3);
        due("4: 159 is escaped", false, x::isWide);
        x.write(160, 1);
        due("4: 160 is wide", true, x::isWide);
        x.write(1, 1);
        due("4: it stays wide", true, x::isWide);
        x.submit(0, 1);
        due("4: submitted", false, x::isWide);
    }

    // Promise 5

    private static void septets() {
        Shortmessage x = withText(127, 3);
        due("5: plain", 3, x::septets);
        x.write(128, 2);
        due("5: escaped", 7, x::septets);
        x.write(159, 1);
        due("5: escaped", 9, x::septets);
        x.write(160, 1);
        CHECK.refuses(x, "5: wide", STATE, x::septets);
        due("5: all escaped", 800, () -> withText(130, 400).septets());
    }

    // Promise 6

    private static void partsOfSmallTexts() {
        due("6: one sign", 1, () -> withText(0, 1).parts());
        due("6: 160 septets", 1, () -> withText(0, 160).parts());
        due("6: 161 septets", 2, () -> withText(0, 161).parts());
        due("6: 306 septets", 2, () -> withText(0, 306).parts());
        due("6: 307 septets", 3, () -> withText(0, 307).parts());
        due("6: 80 escaped", 1, () -> withText(140, 80).parts());
        due("6: 81 escaped", 2, () -> withText(140, 81).parts());
        due("6: 152 escaped", 2, () -> withText(140, 152).parts());
        due("6: 153 escaped", 3, () -> withText(140, 153).parts());
        due("6: 400 escaped", 6, () -> withText(140, 400).parts());
    }

    private static void partsOfWideTexts() {
        due("6: 70 wide", 1, () -> withText(160, 70).parts());
        due("6: 71 wide", 2, () -> withText(160, 71).parts());
        due("6: 134 wide", 2, () -> withText(160, 134).parts());
        due("6: 135 wide", 3, () -> withText(160, 135).parts());
        due("6: 400 wide", 6, () -> withText(160, 400).parts());
        Shortmessage x = withText(1, 100);
        due("6: small", 1, x::parts);
        x.write(160, 1);
        due("6: wide by the last sign", 2, x::parts);
    }

    // Promise 7

    private static void signs() {
        Shortmessage x = withText(1, 152);
        x.write(130, 5);
        due("7: an escaped sign is not cut", 152, () -> x.signs(0));
        due("7: the rest", 5, () -> x.signs(1));
        CHECK.refuses(x, "7: no part", INDEX, () -> x.signs(2));
        CHECK.refuses(x, "7: no part", INDEX, () -> x.signs(-1));
        CHECK.refuses(x, "7: no part", INDEX, () -> x.signs(Integer.MAX_VALUE));
        CHECK.refuses(x, "7: no part", INDEX, () -> x.signs(Integer.MIN_VALUE));
        due("7: one part", 160, () -> withText(1, 160).signs(0));
        due("7: 153", 153, () -> withText(1, 161).signs(0));
        due("7: 8", 8, () -> withText(1, 161).signs(1));
        due("7: one wide part", 70, () -> withText(200, 70).signs(0));
        due("7: 67", 67, () -> withText(200, 71).signs(0));
        due("7: 4", 4, () -> withText(200, 71).signs(1));
        due("7: the sixth of wide", 65, () -> withText(200, 400).signs(5));
        due("7: the sixth of escaped", 20, () -> withText(140, 400).signs(5));
        due("7: empty", "throws." + INDEX, () -> new Shortmessage().signs(0));
    }

    // Promise 8

    private static void octets() {
        due("8: one septet", 1, () -> withText(1, 1).octets(0));
        due("8: seven septets", 7, () -> withText(1, 7).octets(0));
        due("8: eight septets", 7, () -> withText(1, 8).octets(0));
        due("8: nine septets", 8, () -> withText(1, 9).octets(0));
        due("8: 160 septets", 140, () -> withText(1, 160).octets(0));
        due("8: 153 septets", 134, () -> withText(1, 161).octets(0));
        due("8: 152 septets", 133, () -> withText(140, 81).octets(0));
        due("8: ten septets", 9, () -> withText(140, 81).octets(1));
        due("8: 70 wide signs", 140, () -> withText(160, 70).octets(0));
        due("8: 67 wide signs", 134, () -> withText(160, 71).octets(0));
        due("8: 4 wide signs", 8, () -> withText(160, 71).octets(1));
        Shortmessage x = withText(1, 161);
        CHECK.refuses(x, "8: no part", INDEX, () -> x.octets(2));
        CHECK.refuses(x, "8: no part", INDEX, () -> x.octets(-1));
        due("8: empty", "throws." + INDEX, () -> new Shortmessage().octets(0));
    }

    // Promise 9

    private static void octetOfSmallTexts() {
        Shortmessage x = withText(104, 1);
        x.write(101, 1);
        x.write(108, 2);
        x.write(111, 1);
        int[] hello = {232, 50, 155, 253, 6};
        for (int i = 0; i < hello.length; i++) {
            int place = i;
            due("9: hello " + i, hello[i], () -> x.octet(0, place));
        }
        CHECK.refuses(x, "9: no place", INDEX, () -> x.octet(0, 5));
        CHECK.refuses(x, "9: no place", INDEX, () -> x.octet(0, -1));
        CHECK.refuses(x, "9: no place", INDEX, () -> x.octet(0, Integer.MAX_VALUE));
        CHECK.refuses(x, "9: no part", INDEX, () -> x.octet(1, 0));
        CHECK.refuses(x, "9: no part", INDEX, () -> x.octet(-1, 0));
        Shortmessage y = withText(127, 8);
        due("9: full bits", 255, () -> y.octet(0, 6));
        Shortmessage z = withText(159, 1);
        due("9: 27, then 31", 27 | 128, () -> z.octet(0, 0));
        due("9: the rest of 31", 15, () -> z.octet(0, 1));
        Shortmessage w = withText(1, 153);
        w.write(2, 20);
        due("9: 0 at the end of the first part", 1, () -> w.octet(0, 133));
        due("9: a new part starts its bits anew", 2, () -> w.octet(1, 0));
    }

    private static void octetOfWideTexts() {
        Shortmessage x = withText(999, 67);
        x.write(7, 1);
        x.write(255, 1);
        x.write(256, 1);
        x.write(511, 1);
        due("9: high", 3, () -> x.octet(0, 132));
        due("9: low", 231, () -> x.octet(0, 133));
        int[] rest = {0, 7, 0, 255, 1, 0, 1, 255};
        for (int i = 0; i < rest.length; i++) {
            int place = i;
            due("9: wide " + i, rest[i], () -> x.octet(1, place));
        }
        CHECK.refuses(x, "9: no place", INDEX, () -> x.octet(0, 134));
        CHECK.refuses(x, "9: no place", INDEX, () -> x.octet(1, 8));
    }

    // Promise 10

    private static void submit() {
        Shortmessage x = withText(500, 71);
        due("10: the first message", 0, () -> x.submit(4, 1));
        due("10: an empty text", 0, x::parts);
        due("10: both parts", 2, () -> x.queued(1));
        x.write(1, 1);
        due("10: the second message", 1, () -> x.submit(8, 1000));
        due("10: link 2", 1, () -> x.queued(2));
        due("10: not sent before a tick", 0, () -> x.underWay(2));
        x.write(1, 1);
        due("10: the third message", 2, () -> x.submit(0, 1000));
        due("10: link 0", 1, () -> x.queued(0));
    }

    private static void submitRefuses() {
        Shortmessage x = new Shortmessage();
        CHECK.refuses(x, "10: argument before state", ARGUMENT, () -> x.submit(9, 1));
        CHECK.refuses(x, "10: no text", STATE, () -> x.submit(0, 1));
        x.write(1, 1);
        for (int receiver : new int[] {-1, 9, Integer.MIN_VALUE, Integer.MAX_VALUE}) {
            CHECK.refuses(x, "10: receiver " + receiver, ARGUMENT, () -> x.submit(receiver, 1));
        }
        for (int validity : new int[] {0, -1, 1001, Integer.MIN_VALUE, Integer.MAX_VALUE}) {
            CHECK.refuses(x, "10: validity " + validity, ARGUMENT, () -> x.submit(0, validity));
        }
        Shortmessage y = new Shortmessage();
        for (int i = 0; i < 20; i++) {
            int number = i;
            y.write(999, 200);
            y.write(999, 200);
            due("10: message " + i, number, () -> y.submit(0, 1000));
        }
        due("10: 120 parts in one queue", 120, () -> y.queued(0));
        y.write(1, 1);
        CHECK.refuses(y, "10: 20 messages", STATE, () -> y.submit(0, 1));
        CHECK.refuses(y, "10: argument before state", ARGUMENT, () -> y.submit(0, 0));
    }

    // Promise 11

    private static void state() {
        Shortmessage x = withMessagesFor(0, 1, 2);
        due("11: waits", 0, () -> x.state(0));
        x.pass(1);
        due("11: waits under way", 0, () -> x.state(0));
        x.acknowledge(0, 0);
        x.acknowledge(1, 3);
        due("11: delivered", 1, () -> x.state(0));
        due("11: rejected", 2, () -> x.state(1));
        for (int i = 0; i < 5; i++) {
            x.pass(200);
        }
        due("11: expired", 3, () -> x.state(2));
        due("11: stays delivered", 1, () -> x.state(0));
        due("11: stays rejected", 2, () -> x.state(1));
        CHECK.refuses(x, "11: no message", INDEX, () -> x.state(3));
        CHECK.refuses(x, "11: no message", INDEX, () -> x.state(-1));
        CHECK.refuses(x, "11: no message", INDEX, () -> x.state(20));
        CHECK.refuses(x, "11: no message", INDEX, () -> x.state(Integer.MAX_VALUE));
    }

    private static void expiry() {
        Shortmessage x = new Shortmessage();
        x.pass(7);
        x.toggleLink(0);
        x.write(1, 1);
        x.submit(0, 3);
        x.write(1, 1);
        x.submit(1, 3);
        x.pass(2);
        due("11: before its end", 0, () -> x.state(0));
        x.pass(1);
        due("11: at its end", 3, () -> x.state(0));
        due("11: also under way", 3, () -> x.state(1));
        due("11: it left the queue", 0, () -> x.queued(0));
        due("11: it stays under way", 1, () -> x.underWay(1));
        x.write(1, 1);
        x.submit(2, 1);
        due("11: expires before it is sent", 0, () -> x.pass(1));
        due("11: validity 1", 3, () -> x.state(2));
    }

    // Promise 12

    private static void missing() {
        Shortmessage x = withText(1, 400);
        x.submit(0, 1000);
        due("12: all three", 7, () -> x.missing(0));
        x.pass(1);
        x.acknowledge(0, 1);
        due("12: busy is missing", 7, () -> x.missing(0));
        x.acknowledge(0, 0);
        due("12: without the second", 5, () -> x.missing(0));
        x.pass(1);
        x.acknowledge(0, 0);
        due("12: without the third", 1, () -> x.missing(0));
        x.pass(1);
        x.acknowledge(0, 0);
        due("12: none", 0, () -> x.missing(0));
        CHECK.refuses(x, "12: no message", INDEX, () -> x.missing(1));
        CHECK.refuses(x, "12: no message", INDEX, () -> x.missing(-1));
        Shortmessage y = withText(140, 400);
        y.submit(0, 1);
        due("12: six parts", 63, () -> y.missing(0));
        y.pass(1);
        due("12: expired", 63, () -> y.missing(0));
    }

    // Promise 13

    private static void joined() {
        Shortmessage x = withText(300, 66);
        x.write(301, 1);
        x.write(302, 1);
        x.write(303, 3);
        x.submit(0, 1000);
        x.pass(1);
        due("13: not delivered", -1, () -> x.joined(0, 0));
        x.acknowledge(0, 1);
        x.acknowledge(0, 0);
        due("13: the end of the first part", -1, () -> x.joined(0, 66));
        due("13: the start of the second part", 302, () -> x.joined(0, 67));
        due("13: the last sign", 303, () -> x.joined(0, 70));
        x.pass(2);
        x.acknowledge(0, 0);
        due("13: the first sign", 300, () -> x.joined(0, 0));
        due("13: the end of the first part", 301, () -> x.joined(0, 66));
        CHECK.refuses(x, "13: no place", INDEX, () -> x.joined(0, 71));
        CHECK.refuses(x, "13: no place", INDEX, () -> x.joined(0, -1));
        CHECK.refuses(x, "13: no place", INDEX, () -> x.joined(0, Integer.MAX_VALUE));
        CHECK.refuses(x, "13: no message", INDEX, () -> x.joined(1, 0));
        CHECK.refuses(x, "13: no message", INDEX, () -> x.joined(-1, 0));
        x.write(9, 71);
        due("13: a new text changes nothing", 300, () -> x.joined(0, 0));
    }

    // Promises 14 and 15

    private static void receipts() {
        Shortmessage x = new Shortmessage();
        for (int receiver = 0; receiver < 6; receiver++) {
            x.write(1, 1);
            x.submit(receiver, receiver == 4 || receiver == 2 ? 3 : 1000);
        }
        x.pass(1);
        due("14: none", 0, x::receipts);
        CHECK.refuses(x, "15: none", INDEX, () -> x.receipt(0));
        x.acknowledge(1, 0);
        due("14: delivered", 1, x::receipts);
        due("15: delivered", 11, () -> x.receipt(0));
        x.acknowledge(0, 3);
        due("14: rejected", 2, x::receipts);
        due("15: rejected", 2, () -> x.receipt(1));
        x.pass(2);
        due("14: expired", 4, x::receipts);
        due("15: expired by their numbers", 23, () -> x.receipt(2));
        due("15: expired by their numbers", 43, () -> x.receipt(3));
        due("15: the first one stays", 11, () -> x.receipt(0));
        CHECK.refuses(x, "15: no receipt", INDEX, () -> x.receipt(4));
        CHECK.refuses(x, "15: no receipt", INDEX, () -> x.receipt(-1));
        CHECK.refuses(x, "15: no receipt", INDEX, () -> x.receipt(Integer.MAX_VALUE));
    }

    // Promise 16

    private static void pass() {
        Shortmessage x = withMessagesFor(0, 1, 2, 3, 4, 6, 6, 6);
        due("16: two for each window", 5, () -> x.pass(1));
        due("16: the windows are full", 0, () -> x.pass(200));
        x.acknowledge(0, 0);
        due("16: one more", 1, () -> x.pass(1));
        for (int ticks : new int[] {0, -1, 201, Integer.MIN_VALUE, Integer.MAX_VALUE}) {
            CHECK.refuses(x, "16: ticks " + ticks, ARGUMENT, () -> x.pass(ticks));
        }
        Shortmessage y = withMessagesFor(0, 0, 0, 0, 0, 0, 0, 0);
        y.setWindow(0, 10);
        due("16: five tokens, then one each tick", 7, () -> y.pass(3));
        due("16: the last one", 1, () -> y.pass(3));
    }

    private static void passSkipsWhatIsNotReady() {
        Shortmessage x = withMessagesFor(0, 3, 6);
        x.setWindow(0, 1);
        x.pass(1);
        due("16: message 0 first", 0, () -> x.acknowledge(0, 1));
        x.pass(1);
        due("16: then message 1", 10, () -> x.acknowledge(0, 2));
        x.pass(1);
        due("16: then message 2", 20, () -> x.acknowledge(0, 1));
        due("16: then message 0 again", 1, () -> x.pass(1));
        due("16: message 0", 0, () -> x.acknowledge(0, 0));
        x.alert(3);
        x.pass(1);
        due("16: message 1 stands ahead", 10, () -> x.acknowledge(0, 0));
    }

    // Promise 17

    private static void time() {
        Shortmessage x = new Shortmessage();
        x.pass(1);
        due("17: 1", 1, x::time);
        x.pass(200);
        due("17: 201", 201, x::time);
    }

    // Promise 18

    private static void toggleLink() {
        Shortmessage x = withMessagesFor(0, 3, 6);
        due("18: down", false, () -> x.toggleLink(0));
        due("18: nothing is sent", 0, () -> x.pass(3));
        due("18: up", true, () -> x.toggleLink(0));
        due("18: sent at the next tick", 2, () -> x.pass(1));
        due("18: down again", false, () -> x.toggleLink(0));
        due("18: back in the queue", 3, () -> x.queued(0));
        due("18: nothing under way", 0, () -> x.underWay(0));
        x.toggleLink(0);
        x.pass(1);
        due("18: in the order of sending", 0, () -> x.acknowledge(0, 0));
        due("18: in the order of sending", 10, () -> x.acknowledge(0, 0));
        for (int link : new int[] {-1, 3, Integer.MIN_VALUE, Integer.MAX_VALUE}) {
            CHECK.refuses(x, "18: link " + link, INDEX, () -> x.toggleLink(link));
        }
    }

    private static void toggleLinkDropsParts() {
        Shortmessage x = new Shortmessage();
        x.write(1, 161);
        x.submit(0, 1000);
        x.write(1, 1);
        x.submit(3, 1000);
        x.setWindow(0, 3);
        x.pass(1);
        x.acknowledge(0, 3);
        due("18: parts stay under way", 2, () -> x.underWay(0));
        x.toggleLink(0);
        due("18: those of ended messages are gone", 1, () -> x.queued(0));
        x.toggleLink(0);
        due("18: the other is sent again", 1, () -> x.pass(1));
        due("18: the other is message 1", 10, () -> x.acknowledge(0, 1));
        x.pass(2);
        x.toggleLink(0);
        x.toggleLink(0);
        due("18: to be tried at once", 1, () -> x.pass(1));
        x.acknowledge(0, 1);
        x.pass(4);
        x.acknowledge(0, 1);
        x.pass(8);
        x.acknowledge(0, 1);
        due("18: failures are kept", 2, () -> x.state(1));
    }

    // Promise 19

    private static void setWindow() {
        Shortmessage x = withMessagesFor(0, 0, 0, 0);
        due("19: 2 at first", 2, () -> x.setWindow(0, 10));
        due("19: 10 before", 10, () -> x.setWindow(0, 3));
        x.pass(1);
        due("19: three under way", 3, () -> x.underWay(0));
        due("19: 3 before", 3, () -> x.setWindow(0, 1));
        due("19: a smaller window takes none back", 3, () -> x.underWay(0));
        x.acknowledge(0, 0);
        x.acknowledge(0, 0);
        due("19: full at one", 0, () -> x.pass(1));
        due("19: another link", 2, () -> x.setWindow(1, 1));
        for (int window : new int[] {0, -1, 11, Integer.MIN_VALUE, Integer.MAX_VALUE}) {
            CHECK.refuses(x, "19: window " + window, ARGUMENT, () -> x.setWindow(0, window));
        }
        CHECK.refuses(x, "19: no link", INDEX, () -> x.setWindow(3, 1));
        CHECK.refuses(x, "19: index before argument", INDEX, () -> x.setWindow(-1, 0));
        due("19: refused windows are not kept", 1, () -> x.setWindow(0, 1));
    }

    // Promises 20 and 21

    private static void queuedAndUnderWay() {
        Shortmessage x = withMessagesFor(0, 3, 6, 1);
        due("20: three", 3, () -> x.queued(0));
        due("20: one", 1, () -> x.queued(1));
        due("20: none", 0, () -> x.queued(2));
        due("21: none", 0, () -> x.underWay(0));
        x.pass(1);
        due("20: one is left", 1, () -> x.queued(0));
        due("21: two", 2, () -> x.underWay(0));
        due("21: one", 1, () -> x.underWay(1));
        due("21: none", 0, () -> x.underWay(2));
        x.acknowledge(0, 1);
        due("20: busy is queued", 2, () -> x.queued(0));
        due("21: busy is not under way", 1, () -> x.underWay(0));
        x.acknowledge(0, 2);
        due("20: absent is queued", 3, () -> x.queued(0));
        for (int link : new int[] {-1, 3, Integer.MIN_VALUE, Integer.MAX_VALUE}) {
            CHECK.refuses(x, "20: link " + link, INDEX, () -> x.queued(link));
            CHECK.refuses(x, "21: link " + link, INDEX, () -> x.underWay(link));
        }
    }

    // Promise 22

    private static void tokens() {
        Shortmessage x = withMessagesFor(0, 0, 0, 0, 0, 0);
        x.setWindow(0, 10);
        x.pass(1);
        due("22: none after five", 0, () -> x.tokens(0));
        due("22: others keep theirs", 5, () -> x.tokens(1));
        x.pass(1);
        due("22: the new one is taken", 0, () -> x.tokens(0));
        due("22: by the sixth", 6, () -> x.underWay(0));
        x.toggleLink(0);
        x.pass(3);
        due("22: one each tick, also when down", 3, () -> x.tokens(0));
        x.pass(10);
        due("22: never more than five", 5, () -> x.tokens(0));
        for (int link : new int[] {-1, 3, Integer.MIN_VALUE, Integer.MAX_VALUE}) {
            CHECK.refuses(x, "22: link " + link, INDEX, () -> x.tokens(link));
        }
    }

    // Promise 23

    private static void acknowledge() {
        Shortmessage x = withText(1, 161);
        CHECK.refuses(x, "23: nothing under way", STATE, () -> x.acknowledge(0, 0));
        x.submit(0, 1000);
        CHECK.refuses(x, "23: still queued", STATE, () -> x.acknowledge(0, 0));
        CHECK.refuses(x, "23: argument before state", ARGUMENT, () -> x.acknowledge(0, 4));
        CHECK.refuses(x, "23: index before argument", INDEX, () -> x.acknowledge(3, 4));
        x.pass(1);
        for (int outcome : new int[] {-1, 4, Integer.MIN_VALUE, Integer.MAX_VALUE}) {
            CHECK.refuses(x, "23: outcome " + outcome, ARGUMENT, () -> x.acknowledge(0, outcome));
        }
        CHECK.refuses(x, "23: no link", INDEX, () -> x.acknowledge(-1, 0));
        due("23: the first part", 0, () -> x.acknowledge(0, 0));
        due("23: not all are delivered", 0, () -> x.state(0));
        due("23: no receipt yet", 0, x::receipts);
        due("23: the second part", 1, () -> x.acknowledge(0, 0));
        due("23: all are delivered", 1, () -> x.state(0));
        CHECK.refuses(x, "23: nothing is left", STATE, () -> x.acknowledge(0, 0));
    }

    private static void busy() {
        Shortmessage x = withMessagesFor(2);
        x.pass(1);
        for (int failures = 1; failures <= 3; failures++) {
            int wait = 1 << failures;
            due("23: busy " + failures, 0, () -> x.acknowledge(2, 1));
            due("23: still waits", 0, () -> x.state(0));
            if (wait > 1) {
                due("23: not before " + wait, 0, () -> x.pass(wait - 1));
            }
            due("23: after " + wait, 1, () -> x.pass(1));
        }
        due("23: the fourth failure", 0, () -> x.acknowledge(2, 1));
        due("23: rejects", 2, () -> x.state(0));
        due("23: and leaves nothing", 0, () -> x.queued(2));
        due("23: with a receipt", 2, () -> x.receipt(0));
    }

    private static void absent() {
        Shortmessage x = withMessagesFor(2);
        x.pass(1);
        for (int i = 0; i < 5; i++) {
            due("23: absent", 0, () -> x.acknowledge(2, 2));
            due("23: it waits for an alert", 0, () -> x.pass(30));
            due("23: of its receiver", 0, () -> x.alert(5));
            due("23: the alert", 1, () -> x.alert(2));
            due("23: it is sent again", 1, () -> x.pass(1));
        }
        due("23: absent is no failure", 0, () -> x.state(0));
    }

    private static void rejectedPart() {
        Shortmessage x = withText(1, 400);
        x.submit(0, 1000);
        x.write(1, 1);
        x.submit(0, 1000);
        x.pass(1);
        due("23: rejected", 0, () -> x.acknowledge(0, 3));
        due("23: state", 2, () -> x.state(0));
        due("23: its parts leave the queue", 1, () -> x.queued(0));
        due("23: but not what is under way", 1, () -> x.underWay(0));
        due("23: missing", 7, () -> x.missing(0));
    }

    private static void outcomeOfAnEndedMessage() {
        for (int outcome = 0; outcome <= 3; outcome++) {
            int told = outcome;
            Shortmessage x = withText(1, 161);
            x.submit(0, 1000);
            x.pass(1);
            x.acknowledge(0, 3);
            due("23: the answer stays", 1, () -> x.acknowledge(0, told));
            due("23: state", 2, () -> x.state(0));
            due("23: missing", 3, () -> x.missing(0));
            due("23: queued", 0, () -> x.queued(0));
            due("23: under way", 0, () -> x.underWay(0));
            due("23: receipts", 1, x::receipts);
        }
    }

    // Promise 24

    private static void alert() {
        Shortmessage x = withMessagesFor(0, 0, 3, 0);
        x.setWindow(0, 3);
        x.pass(1);
        x.acknowledge(0, 2);
        x.acknowledge(0, 2);
        x.acknowledge(0, 2);
        due("24: another link", 0, () -> x.alert(1));
        due("24: two of receiver 0", 2, () -> x.alert(0));
        due("24: they wait no more", 0, () -> x.alert(0));
        due("24: those two and the fourth are sent", 3, () -> x.pass(1));
        due("24: one of receiver 3", 1, () -> x.alert(3));
        x.acknowledge(0, 1);
        due("24: a busy part does not wait for it", 0, () -> x.alert(0));
        due("24: nor is it tried sooner", 1, () -> x.pass(1));
        for (int receiver : new int[] {-1, 9, Integer.MIN_VALUE, Integer.MAX_VALUE}) {
            CHECK.refuses(x, "24: receiver " + receiver, ARGUMENT, () -> x.alert(receiver));
        }
    }

    // Promise 25

    private static Object setKeyword(Shortmessage x, int service, int sign) {
        x.setKeyword(service, sign);
        return "set";
    }

    private static void setKeyword() {
        Shortmessage x = new Shortmessage();
        due("25: the lowest", "set", () -> setKeyword(x, 1, 0));
        due("25: the highest", "set", () -> setKeyword(x, 4, 999));
        due("25: goes to 1", 1, () -> x.come(0, 0));
        due("25: goes to 4", 4, () -> x.come(1, 999));
        setKeyword(x, 1, 7);
        due("25: in place of an earlier one", 0, () -> x.come(2, 0));
        due("25: the new one", 1, () -> x.come(2, 7));
        setKeyword(x, 2, 7);
        due("25: another service takes it", 2, () -> x.come(3, 7));
        setKeyword(x, 2, -1);
        due("25: then nobody has it", 0, () -> x.come(4, 7));
        setKeyword(x, 3, -1);
        due("25: two without keywords", 4, () -> x.come(4, 999));
        setKeyword(x, 4, 999);
        due("25: its own again", 4, () -> x.come(5, 999));
        for (int service : new int[] {0, -1, 5, Integer.MIN_VALUE, Integer.MAX_VALUE}) {
            CHECK.refuses(x, "25: service " + service, ARGUMENT, () -> setKeyword(x, service, 1));
        }
        for (int sign : new int[] {-2, 1000, Integer.MIN_VALUE, Integer.MAX_VALUE}) {
            CHECK.refuses(x, "25: sign " + sign, ARGUMENT, () -> setKeyword(x, 4, sign));
        }
        due("25: refused keywords are not kept", 4, () -> x.come(6, 999));
    }

    // Promise 26

    private static void come() {
        Shortmessage x = new Shortmessage();
        due("26: the default service", 0, () -> x.come(0, 5));
        x.setKeyword(2, 5);
        x.setKeyword(3, 6);
        due("26: no session", 0, () -> x.come(0, 1));
        due("26: by keyword", 2, () -> x.come(0, 5));
        x.pass(19);
        due("26: by session", 2, () -> x.come(0, 1));
        due("26: another person", 0, () -> x.come(8, 1));
        x.pass(19);
        due("26: the session goes on by that", 2, () -> x.come(0, 1));
        due("26: another keyword", 3, () -> x.come(0, 6));
        due("26: another session", 3, () -> x.come(0, 1));
        x.pass(20);
        due("26: over after 20 ticks", 0, () -> x.come(0, 1));
        due("26: no session then", 0, () -> x.come(0, 1));
        due("26: by keyword", 3, () -> x.come(0, 6));
        x.pass(19);
        due("26: a keyword begins it anew", 3, () -> x.come(0, 6));
        x.pass(19);
        x.setKeyword(3, -1);
        due("26: the session stays without the keyword", 3, () -> x.come(0, 6));
        for (int person : new int[] {-1, 9, Integer.MIN_VALUE, Integer.MAX_VALUE}) {
            CHECK.refuses(x, "26: person " + person, ARGUMENT, () -> x.come(person, 5));
        }
        for (int sign : new int[] {-1, 1000, Integer.MIN_VALUE, Integer.MAX_VALUE}) {
            CHECK.refuses(x, "26: sign " + sign, ARGUMENT, () -> x.come(0, sign));
        }
        due("26: a refused text goes by no session", 3, () -> x.come(0, 9));
        x.pass(19);
        x.come(0, 9);
        x.pass(10);
        Check.answer(() -> x.come(0, 1000));
        x.pass(10);
        due("26: nor keeps it alive", 0, () -> x.come(0, 9));
    }
}
