/** Messages and receipts: promises 10 to 15, and what the terms say of messages, their end and receipts. */
public final class MessageSentencesTest {
    private MessageSentencesTest() {
    }

    public static void main(String[] args) {
        SentenceRunner.run(MessageSentencesTest.class);
    }

    /** With as many messages as there may be, all for receiver 0. */
    private static Shortmessage withMostMessages() {
        Shortmessage x = new Shortmessage();
        for (int i = 0; i < 20; i++) {
            Made.submit(x, 0, 1000);
        }
        return x;
    }

    /** With three messages: one delivered, one rejected, one expired. */
    private static Shortmessage withEndedMessages() {
        Shortmessage x = new Shortmessage();
        Made.submit(x, 0, 1000);
        Made.submit(x, 1, 1000);
        Made.submit(x, 2, 2);
        x.pass(1);
        x.acknowledge(0, 0);
        x.acknowledge(1, 3);
        x.pass(1);
        return x;
    }

    // ---- Terms: messages

    @Sentence(at = "Terms", says = "Messages are numbered from 0; there are at most 20.")
    static void terms_messages_numberedFrom0AndAtMost20(Check check) {
        Shortmessage x = new Shortmessage();
        for (int i = 0; i < 20; i++) {
            int number = i;
            x.write(1, 1);
            check.due("message " + i, number, () -> x.submit(number % 9, 1000));
        }
        x.write(1, 1);
        check.due("the 21st", Check.STATE, () -> x.submit(0, 1000));
        check.due("the last one stands", 0, () -> x.state(19));
        check.due("there is none behind it", Check.INDEX, () -> x.state(20));
    }

    @Sentence(at = "Terms", says = "A message is a text that is submitted for a receiver, 0 to 8, with a validity.")
    static void terms_messages_receivers0To8(Check check) {
        check.due("0", 0, () -> Made.text(1, 1).submit(0, 1));
        check.due("8", 0, () -> Made.text(1, 1).submit(8, 1));
        check.due("-1", Check.ARGUMENT, () -> Made.text(1, 1).submit(-1, 1));
        check.due("9", Check.ARGUMENT, () -> Made.text(1, 1).submit(9, 1));
    }

    @Sentence(at = "Terms", says = "The link of a receiver is its remainder by 3; links are 0 to 2.")
    static void terms_messages_linkIsTheRemainderBy3(Check check) {
        for (int receiver = 0; receiver <= 8; receiver++) {
            Shortmessage x = Made.messagesFor(receiver);
            String queues = receiver % 3 == 0 ? "1 0 0" : receiver % 3 == 1 ? "0 1 0" : "0 0 1";
            check.due("receiver " + receiver, queues, () -> x.queued(0) + " " + x.queued(1) + " " + x.queued(2));
        }
        check.due("no link 3", Check.INDEX, () -> new Shortmessage().queued(3));
        check.due("no link -1", Check.INDEX, () -> new Shortmessage().queued(-1));
    }

    @Sentence(at = "Terms", says = "The parts of a message are put at the end of the queue of that link, in their "
            + "order")
    static void terms_messages_partsGoToTheEndInTheirOrder(Check check) {
        Shortmessage x = new Shortmessage();
        Made.submitParts(x, 6, 0, 1000);
        Made.submitParts(x, 2, 3, 1000);
        Made.submit(x, 6, 1000);
        check.due("all are queued", 9, () -> x.queued(0));
        x.setWindow(0, 9);
        x.pass(5);
        check.due("in their order", "0 1 2 3 4 5 10 11 20", () -> Made.acknowledged(x, 0, 0, 9));
    }

    @Sentence(at = "Terms", says = "The parts of a message are put at the end of the queue of that link, in their "
            + "order")
    static void terms_messages_partsGoBehindThoseThatWait(Check check) {
        Shortmessage x = Made.messagesFor(0, 3);
        x.pass(1);
        x.acknowledge(0, 2);
        x.acknowledge(0, 1);
        Made.submit(x, 0, 1000);
        x.alert(0);
        x.setWindow(0, 1);
        x.pass(2);
        check.due("absent, alerted", 0, () -> x.acknowledge(0, 0));
        x.pass(1);
        check.due("busy, its time come", 10, () -> x.acknowledge(0, 0));
        x.pass(1);
        check.due("the new one", 20, () -> x.acknowledge(0, 0));
    }

    @Sentence(at = "Terms", says = "to be tried from now on.")
    static void terms_messages_toBeTriedFromNowOn(Check check) {
        Shortmessage x = new Shortmessage();
        x.pass(200);
        Made.submit(x, 0, 1000);
        check.due("not before a tick", "1 0", () -> x.queued(0) + " " + x.underWay(0));
        check.due("at the next tick", 1, () -> x.pass(1));
        check.due("it is under way", "0 1", () -> x.queued(0) + " " + x.underWay(0));
    }

    // ---- Terms: the end of a message

    @Sentence(at = "Terms", says = "Then all messages that wait and whose validity is over (the time is that at which "
            + "they were submitted and the validity, together) expire")
    static void terms_expire_atTheirTimeAndNotBefore(Check check) {
        Shortmessage x = new Shortmessage();
        x.pass(7);
        Made.submit(x, 0, 1);
        Made.submit(x, 1, 2);
        check.due("none yet", "0 0", () -> Made.states(x, 2));
        x.pass(1);
        check.due("validity 1, after 1", "3 0", () -> Made.states(x, 2));
        x.pass(1);
        check.due("validity 2, after 2", "3 3", () -> Made.states(x, 2));
    }

    @Sentence(at = "Terms", says = "Then all messages that wait and whose validity is over (the time is that at which "
            + "they were submitted and the validity, together) expire")
    static void terms_expire_theLongestValidity(Check check) {
        Shortmessage x = new Shortmessage();
        x.pass(3);
        Made.submit(x, 0, 1000);
        Made.pass(x, 999);
        check.due("after 999", 0, () -> x.state(0));
        x.pass(1);
        check.due("after 1000", 3, () -> x.state(0));
    }

    @Sentence(at = "Terms", says = "all messages that wait")
    static void terms_expire_onlyThoseThatWait(Check check) {
        Shortmessage x = new Shortmessage();
        Made.submit(x, 0, 2);
        Made.submit(x, 1, 2);
        x.pass(1);
        x.acknowledge(0, 0);
        x.acknowledge(1, 3);
        x.pass(5);
        check.due("delivered and rejected ones stay so", "1 2", () -> Made.states(x, 2));
        check.due("with one receipt each", "1 12", () -> Made.receipts(x));
    }

    @Sentence(at = "Terms", says = "expire, by their numbers.")
    static void terms_expire_byTheirNumbers(Check check) {
        Shortmessage x = new Shortmessage();
        Made.submit(x, 2, 5);
        Made.submit(x, 1, 3);
        x.pass(1);
        Made.submit(x, 0, 4);
        x.pass(1);
        Made.submit(x, 0, 1);
        x.pass(3);
        check.due("1 and 3 first, then 0 and 2", "13 33 3 23", () -> Made.receipts(x));
    }

    @Sentence(at = "Terms", says = "With each tick the time grows by 1. Then all messages that wait and whose validity "
            + "is over (the time is that at which they were submitted and the validity, together) expire, by their "
            + "numbers. Then for each link")
    static void terms_expire_beforePartsAreSent(Check check) {
        Shortmessage x = new Shortmessage();
        Made.submit(x, 0, 1);
        Made.submit(x, 0, 2);
        check.due("one is sent, the other expired", 1, () -> x.pass(1));
        check.due("that of message 1", 10, () -> x.acknowledge(0, 0));
        check.due("states", "3 1", () -> Made.states(x, 2));
    }

    @Sentence(at = "Terms", says = "When a message expires or is rejected, its parts leave the queue")
    static void terms_ended_itsPartsLeaveTheQueue(Check check) {
        Shortmessage x = new Shortmessage();
        Made.submit(x, 0, 1000);
        Made.submitParts(x, 4, 0, 1000);
        Made.submitParts(x, 3, 0, 3);
        Made.submit(x, 0, 1000);
        x.pass(1);
        check.due("seven are queued", 7, () -> x.queued(0));
        x.acknowledge(0, 0);
        x.acknowledge(0, 3);
        check.due("message 1 is rejected: three leave", 4, () -> x.queued(0));
        check.due("two of message 2 are sent", 2, () -> x.pass(1));
        check.due("and two are queued", 2, () -> x.queued(0));
        x.pass(1);
        check.due("message 2 expires: one leaves", 1, () -> x.queued(0));
        check.due("states", "1 2 3 0", () -> Made.states(x, 4));
    }

    @Sentence(at = "Terms", says = "When a message expires or is rejected, its parts leave the queue")
    static void terms_ended_alsoPartsThatWaitLeaveTheQueue(Check check) {
        Shortmessage x = new Shortmessage();
        Made.submitParts(x, 3, 0, 1000);
        x.setWindow(0, 3);
        x.pass(1);
        x.acknowledge(0, 1);
        x.acknowledge(0, 2);
        check.due("one is busy, one is absent", 2, () -> x.queued(0));
        x.acknowledge(0, 3);
        check.due("none is left", 0, () -> x.queued(0));
        check.due("no alert is waited for", 0, () -> x.alert(0));
        check.due("none is sent later", 0, () -> x.pass(10));
    }

    @Sentence(at = "Terms", says = "those under way stay so until they are acknowledged.")
    static void terms_ended_thoseUnderWayStaySo(Check check) {
        Shortmessage x = new Shortmessage();
        Made.submitParts(x, 2, 0, 2);
        Made.submitParts(x, 2, 3, 1000);
        x.pass(2);
        check.due("expired", 3, () -> x.state(0));
        check.due("two stay under way", 2, () -> x.underWay(0));
        check.due("and fill the window", 0, () -> x.pass(10));
        check.due("the longest is the first part", 0, () -> x.acknowledge(0, 1));
        check.due("one stays", 1, () -> x.underWay(0));
        check.due("there is room for one", 1, () -> x.pass(10));
        check.due("then the second part", 1, () -> x.acknowledge(0, 0));
        check.due("then one of message 1", 10, () -> x.acknowledge(0, 0));
    }

    // ---- Terms: receipts

    @Sentence(at = "Terms", says = "Receipts are numbered from 0: one comes whenever a message is delivered (1), "
            + "rejected (2) or expires (3).")
    static void terms_receipts_oneForEachEnd(Check check) {
        check.due("delivered, rejected, expired", "1 12 23", () -> Made.receipts(withEndedMessages()));
        check.due("none behind them", Check.INDEX, () -> withEndedMessages().receipt(3));
    }

    @Sentence(at = "Terms", says = "one comes whenever a message is delivered (1), rejected (2) or expires (3).")
    static void terms_receipts_noneForAPart(Check check) {
        Shortmessage x = new Shortmessage();
        Made.submitParts(x, 3, 0, 1000);
        x.setWindow(0, 3);
        x.pass(1);
        check.due("sent", 0, x::receipts);
        x.acknowledge(0, 0);
        check.due("one part delivered", 0, x::receipts);
        x.acknowledge(0, 1);
        check.due("one part busy", 0, x::receipts);
        x.acknowledge(0, 2);
        check.due("one part absent", 0, x::receipts);
    }

    // ---- Promise 10: submit

    @Sentence(at = "Promise 10", says = "Submits the text; then an empty text is written.")
    static void promise10_submit_thenAnEmptyText(Check check) {
        Shortmessage x = Made.text(999, 400);
        x.submit(0, 1000);
        check.due("parts", 0, x::parts);
        check.due("septets", 0, x::septets);
        check.due("isWide", false, x::isWide);
        check.due("signs", 0, x::erase);
        check.due("room for all again", 200, () -> x.write(1, 200));
        check.due("room for all again", 400, () -> x.write(1, 200));
        check.due("the message is kept", 6, () -> x.queued(0));
    }

    @Sentence(at = "Promise 10", says = "`receiver`: 0 to 8")
    static void promise10_submit_receiver0To8(Check check) {
        check.due("0", 0, () -> Made.text(1, 1).submit(0, 1));
        check.due("8", 0, () -> Made.text(1, 1).submit(8, 1));
        check.due("8 is not 5: its alert", 0, () -> {
            Shortmessage x = Made.messagesFor(8);
            x.pass(1);
            x.acknowledge(2, 2);
            return x.alert(5);
        });
    }

    @Sentence(at = "Promise 10", says = "`validity`: 1 to 1000 ticks")
    static void promise10_submit_validity1To1000(Check check) {
        check.due("1", 0, () -> Made.text(1, 1).submit(0, 1));
        check.due("1000", 0, () -> Made.text(1, 1).submit(0, 1000));
    }

    @Sentence(at = "Promise 10", says = "Returns number of the message.")
    static void promise10_submit_returnsTheNumber(Check check) {
        check.due("the first", 0, () -> Made.text(1, 1).submit(0, 1));
        Shortmessage x = withEndedMessages();
        x.write(1, 1);
        check.due("ended ones keep theirs", 3, () -> x.submit(0, 1));
        Shortmessage y = new Shortmessage();
        for (int i = 0; i < 19; i++) {
            Made.submit(y, 0, 1);
        }
        y.write(1, 1);
        check.due("the last", 19, () -> y.submit(0, 1));
    }

    @Sentence(at = "Promise 10", says = "Throws `IllegalArgumentException` if receiver or validity is out of range")
    static void promise10_submit_receiverOutOfRange(Check check) {
        for (int receiver : Made.outside(0, 8)) {
            check.changesNothing("submit(" + receiver + ", 1)", Check.ARGUMENT,
                    () -> Made.text(1, 161), x -> x.submit(receiver, 1));
        }
    }

    @Sentence(at = "Promise 10", says = "Throws `IllegalArgumentException` if receiver or validity is out of range")
    static void promise10_submit_validityOutOfRange(Check check) {
        for (int validity : Made.outside(1, 1000)) {
            check.changesNothing("submit(0, " + validity + ")", Check.ARGUMENT,
                    () -> Made.text(1, 161), x -> x.submit(0, validity));
        }
    }

    @Sentence(at = "Promise 10", says = "Throws `IllegalStateException` if the text has no signs, or there are 20 "
            + "messages")
    static void promise10_submit_noSigns(Check check) {
        check.changesNothing("new", Check.STATE, Shortmessage::new, x -> x.submit(0, 1));
        check.changesNothing("submitted before", Check.STATE, () -> Made.messagesFor(0), x -> x.submit(0, 1));
    }

    @Sentence(at = "Promise 10", says = "Throws `IllegalStateException` if the text has no signs, or there are 20 "
            + "messages")
    static void promise10_submit_20Messages(Check check) {
        check.changesNothing("the 21st", Check.STATE, () -> {
            Shortmessage x = withMostMessages();
            x.write(1, 161);
            return x;
        }, x -> x.submit(8, 1000));
        Shortmessage ended = new Shortmessage();
        for (int i = 0; i < 20; i++) {
            Made.submit(ended, 0, 1);
        }
        ended.pass(1);
        ended.write(1, 1);
        check.due("20 that have ended", Check.STATE, () -> ended.submit(0, 1));
        check.due("the text stays", 1, ended::parts);
    }

    // ---- Promise 11: state

    @Sentence(at = "Promise 11", says = "Returns how a message stands.")
    static void promise11_state_waitsUntilItsEnd(Check check) {
        Shortmessage x = new Shortmessage();
        Made.submitParts(x, 2, 0, 1000);
        check.due("submitted", 0, () -> x.state(0));
        x.pass(1);
        check.due("under way", 0, () -> x.state(0));
        x.acknowledge(0, 0);
        check.due("in part", 0, () -> x.state(0));
        x.acknowledge(0, 0);
        check.due("as a whole", 1, () -> x.state(0));
    }

    @Sentence(at = "Promise 11", says = "`message`: a message")
    static void promise11_state_ofTheFirstAndTheLast(Check check) {
        Shortmessage x = withMostMessages();
        x.pass(1);
        x.acknowledge(0, 3);
        check.due("0", 2, () -> x.state(0));
        check.due("19", 0, () -> x.state(19));
    }

    @Sentence(at = "Promise 11", says = "Returns 0 it waits, 1 delivered, 2 rejected, 3 expired.")
    static void promise11_state_0To3(Check check) {
        Shortmessage x = withEndedMessages();
        Made.submit(x, 0, 1);
        check.due("delivered, rejected, expired, waits", "1 2 3 0", () -> Made.states(x, 4));
    }

    @Sentence(at = "Promise 11", says = "Throws `IndexOutOfBoundsException` if there is no such message")
    static void promise11_state_noSuchMessage(Check check) {
        check.changesNothing("state(0) without messages", Check.INDEX, Shortmessage::new, x -> x.state(0));
        for (int message : Made.outside(0, 2)) {
            check.changesNothing("state(" + message + ") of three", Check.INDEX,
                    () -> Made.messagesFor(0, 1, 2), x -> x.state(message));
        }
        check.changesNothing("state(20) of twenty", Check.INDEX,
                MessageSentencesTest::withMostMessages, x -> x.state(20));
    }

    // ---- Promise 12: missing

    @Sentence(at = "Promise 12", says = "Returns the parts of a message that have not been delivered.")
    static void promise12_missing_whateverElseBecameOfThem(Check check) {
        Shortmessage x = new Shortmessage();
        Made.submitParts(x, 4, 0, 3);
        x.setWindow(0, 4);
        check.due("queued", 15, () -> x.missing(0));
        x.pass(1);
        check.due("under way", 15, () -> x.missing(0));
        x.acknowledge(0, 1);
        x.acknowledge(0, 2);
        check.due("busy and absent", 15, () -> x.missing(0));
        x.acknowledge(0, 0);
        check.due("the third was delivered", 11, () -> x.missing(0));
        x.pass(2);
        check.due("expired", 11, () -> x.missing(0));
        x.acknowledge(0, 0);
        check.due("delivered too late", 11, () -> x.missing(0));
        check.due("rejected", 1, () -> withEndedMessages().missing(1));
    }

    @Sentence(at = "Promise 12", says = "`message`: a message")
    static void promise12_missing_ofTheFirstAndTheLast(Check check) {
        Shortmessage x = withMostMessages();
        x.pass(1);
        x.acknowledge(0, 0);
        check.due("0", 0, () -> x.missing(0));
        check.due("19", 1, () -> x.missing(19));
    }

    @Sentence(at = "Promise 12", says = "Returns the parts, as a set: bit p for part p.")
    static void promise12_missing_bitPForPartP(Check check) {
        Shortmessage x = new Shortmessage();
        Made.submitParts(x, 6, 0, 1000);
        x.setWindow(0, 6);
        x.pass(2);
        check.due("all six", 63, () -> x.missing(0));
        int[] left = {62, 60, 56, 48, 32, 0};
        for (int part = 0; part < 6; part++) {
            x.acknowledge(0, 0);
            check.due("without part " + part, left[part], () -> x.missing(0));
        }
        check.due("one part", 1, () -> Made.messagesFor(0).missing(0));
    }

    @Sentence(at = "Promise 12", says = "Throws `IndexOutOfBoundsException` if there is no such message")
    static void promise12_missing_noSuchMessage(Check check) {
        check.changesNothing("missing(0) without messages", Check.INDEX, Shortmessage::new, x -> x.missing(0));
        for (int message : Made.outside(0, 2)) {
            check.changesNothing("missing(" + message + ") of three", Check.INDEX,
                    () -> Made.messagesFor(0, 1, 2), x -> x.missing(message));
        }
        check.changesNothing("missing(20) of twenty", Check.INDEX,
                MessageSentencesTest::withMostMessages, x -> x.missing(20));
    }

    // ---- Promise 13: joined

    /** Two small parts of 153 and 8 signs, sent but not acknowledged: signs 1 to 4 stand around the cut. */
    private static Shortmessage withTwoParts() {
        Shortmessage x = Made.signs(1);
        x.write(9, 151);
        x.write(2, 1);
        x.write(3, 1);
        x.write(9, 6);
        x.write(4, 1);
        x.submit(0, 1000);
        x.pass(1);
        return x;
    }

    private static String ends(Shortmessage x) {
        return x.joined(0, 0) + " " + x.joined(0, 152) + " " + x.joined(0, 153) + " " + x.joined(0, 160);
    }

    @Sentence(at = "Promise 13", says = "Returns a sign of a message as its receiver has it, joined from its parts.")
    static void promise13_joined_fromPartsInAnyOrder(Check check) {
        Shortmessage x = withTwoParts();
        check.due("none has come", "-1 -1 -1 -1", () -> ends(x));
        x.acknowledge(0, 1);
        x.acknowledge(0, 0);
        check.due("the second has come", "-1 -1 3 4", () -> ends(x));
        x.pass(2);
        x.acknowledge(0, 0);
        check.due("both have come", "1 2 3 4", () -> ends(x));
        Made.more(x, 7, 161);
        check.due("a later text changes nothing", "1 2 3 4", () -> ends(x));
    }

    @Sentence(at = "Promise 13", says = "`message`: a message")
    static void promise13_joined_ofTheFirstAndTheLast(Check check) {
        Shortmessage x = new Shortmessage();
        for (int i = 0; i < 20; i++) {
            x.write(i, 1);
            x.submit(0, 1000);
        }
        x.setWindow(0, 10);
        x.pass(5);
        Made.acknowledged(x, 0, 0, 9);
        x.pass(20);
        Made.acknowledged(x, 0, 0, 10);
        x.pass(1);
        x.acknowledge(0, 0);
        check.due("0", 0, () -> x.joined(0, 0));
        check.due("19", 19, () -> x.joined(19, 0));
    }

    @Sentence(at = "Promise 13", says = "`place`: 0 for the first sign of the text")
    static void promise13_joined_place0IsTheFirst(Check check) {
        Shortmessage x = Made.signs(300, 301, 302);
        x.submit(0, 1000);
        x.pass(1);
        x.acknowledge(0, 0);
        check.due("first", 300, () -> x.joined(0, 0));
        check.due("last", 302, () -> x.joined(0, 2));
    }

    @Sentence(at = "Promise 13", says = "Returns the sign, -1 if the part that has it has not been delivered.")
    static void promise13_joined_signsOrMinus1(Check check) {
        Shortmessage x = Made.signs(0, 130, 999);
        x.submit(0, 1000);
        check.due("queued", -1, () -> x.joined(0, 0));
        x.pass(1);
        check.due("under way", -1, () -> x.joined(0, 2));
        x.acknowledge(0, 0);
        check.due("the sign 0", 0, () -> x.joined(0, 0));
        check.due("an escaped sign", 130, () -> x.joined(0, 1));
        check.due("the sign 999", 999, () -> x.joined(0, 2));
    }

    @Sentence(at = "Promise 13", says = "Returns the sign, -1 if the part that has it has not been delivered.")
    static void promise13_joined_atEveryCut(Check check) {
        Shortmessage x = new Shortmessage();
        Made.submitParts(x, 6, 0, 1000);
        x.setWindow(0, 6);
        x.pass(2);
        for (int part = 0; part < 6; part++) {
            int first = 67 * part;
            check.due("part " + part + " not delivered", -1, () -> x.joined(0, first));
            x.acknowledge(0, 0);
            check.due("part " + part + " delivered", 500, () -> x.joined(0, first));
            if (part < 5) {
                check.due("its last sign", 500, () -> x.joined(0, first + 66));
                check.due("the next part", -1, () -> x.joined(0, first + 67));
            }
        }
    }

    @Sentence(at = "Promise 13", says = "Returns the sign, -1 if the part that has it has not been delivered.")
    static void promise13_joined_ofARejectedMessage(Check check) {
        Shortmessage x = withTwoParts();
        x.acknowledge(0, 0);
        x.acknowledge(0, 3);
        check.due("what was delivered stays", "1 2 -1 -1", () -> ends(x));
    }

    @Sentence(at = "Promise 13", says = "Throws `IndexOutOfBoundsException` if there is no such message or place")
    static void promise13_joined_noSuchMessage(Check check) {
        check.changesNothing("joined(0, 0) without messages", Check.INDEX, Shortmessage::new, x -> x.joined(0, 0));
        for (int message : Made.outside(0, 2)) {
            check.changesNothing("joined(" + message + ", 0) of three", Check.INDEX,
                    () -> Made.messagesFor(0, 1, 2), x -> x.joined(message, 0));
        }
        check.changesNothing("joined(20, 0) of twenty", Check.INDEX,
                MessageSentencesTest::withMostMessages, x -> x.joined(20, 0));
    }

    @Sentence(at = "Promise 13", says = "Throws `IndexOutOfBoundsException` if there is no such message or place")
    static void promise13_joined_noSuchPlace(Check check) {
        for (int place : Made.outside(0, 160)) {
            check.changesNothing("joined(0, " + place + ") of 161 signs", Check.INDEX,
                    MessageSentencesTest::withTwoParts, x -> x.joined(0, place));
        }
        Shortmessage full = Made.text(999, 400);
        full.submit(0, 1000);
        check.due("the last of 400", -1, () -> full.joined(0, 399));
        check.due("none behind it", Check.INDEX, () -> full.joined(0, 400));
        check.due("none in a shorter message", Check.INDEX, () -> Made.messagesFor(0).joined(0, 1));
    }

    // ---- Promise 14: receipts

    @Sentence(at = "Promise 14", says = "Returns the number of receipts.")
    static void promise14_receipts_growByOneForEachEnd(Check check) {
        Shortmessage x = new Shortmessage();
        Made.submit(x, 0, 1000);
        Made.submit(x, 1, 1000);
        Made.submit(x, 2, 2);
        x.pass(1);
        check.due("none", 0, x::receipts);
        x.acknowledge(0, 0);
        check.due("delivered", 1, x::receipts);
        x.acknowledge(1, 3);
        check.due("rejected", 2, x::receipts);
        x.pass(1);
        check.due("expired", 3, x::receipts);
    }

    @Sentence(at = "Promise 14", says = "Returns the number.")
    static void promise14_receipts_from0To20(Check check) {
        check.due("new", 0, () -> new Shortmessage().receipts());
        Shortmessage x = withMostMessages();
        check.due("twenty wait", 0, x::receipts);
        Made.pass(x, 1000);
        check.due("twenty expired", 20, x::receipts);
        x.acknowledge(0, 3);
        x.acknowledge(0, 0);
        check.due("and no more", 20, x::receipts);
    }

    // ---- Promise 15: receipt

    @Sentence(at = "Promise 15", says = "Returns a receipt.")
    static void promise15_receipt_inTheOrderOfComing(Check check) {
        Shortmessage x = Made.messagesFor(2, 1, 0);
        x.pass(1);
        x.acknowledge(0, 3);
        x.acknowledge(1, 0);
        check.due("two", "22 11", () -> Made.receipts(x));
        x.acknowledge(2, 0);
        check.due("earlier ones stay", "22 11 1", () -> Made.receipts(x));
    }

    @Sentence(at = "Promise 15", says = "`receipt`: 0 for the first one")
    static void promise15_receipt_0IsTheFirst(Check check) {
        check.due("0", 1, () -> withEndedMessages().receipt(0));
        check.due("1", 12, () -> withEndedMessages().receipt(1));
    }

    @Sentence(at = "Promise 15", says = "Returns 10 * message + 1, 2 or 3.")
    static void promise15_receipt_ofTheFirstAndTheLastMessage(Check check) {
        check.due("message 0", 1, () -> withEndedMessages().receipt(0));
        Shortmessage x = withMostMessages();
        Made.pass(x, 1000);
        check.due("message 0", 3, () -> x.receipt(0));
        check.due("message 19", 193, () -> x.receipt(19));
    }

    @Sentence(at = "Promise 15", says = "Throws `IndexOutOfBoundsException` if there is no such receipt")
    static void promise15_receipt_noSuchReceipt(Check check) {
        check.changesNothing("receipt(0) without receipts", Check.INDEX,
                () -> Made.messagesFor(0), x -> x.receipt(0));
        for (int receipt : Made.outside(0, 2)) {
            check.changesNothing("receipt(" + receipt + ") of three", Check.INDEX,
                    MessageSentencesTest::withEndedMessages, x -> x.receipt(receipt));
        }
        Shortmessage x = withMostMessages();
        Made.pass(x, 1000);
        check.due("receipt(20) of twenty", Check.INDEX, () -> x.receipt(20));
        check.due("receipt(19) of twenty", 193, () -> x.receipt(19));
    }
}
