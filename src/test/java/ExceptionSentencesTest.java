import java.util.function.Supplier;

/** A new object, its 512 calls, which exception goes first, and that a call that throws changes nothing. */
public final class ExceptionSentencesTest {
    private ExceptionSentencesTest() {
    }

    public static void main(String[] args) {
        SentenceRunner.run(ExceptionSentencesTest.class);
    }

    /** With a text, messages that wait, are under way, busy, absent and ended, a link that is down, and sessions. */
    private static Shortmessage inFullUse() {
        Shortmessage x = new Shortmessage();
        Made.submitParts(x, 3, 0, 100);
        Made.submitParts(x, 4, 1, 100);
        Made.submit(x, 2, 3);
        Made.submit(x, 4, 1000);
        x.setWindow(1, 3);
        x.setKeyword(1, 5);
        x.come(0, 5);
        x.pass(4);
        x.acknowledge(1, 1);
        x.acknowledge(1, 2);
        x.pass(1);
        x.toggleLink(2);
        x.setKeyword(2, 6);
        x.come(3, 6);
        x.write(1, 152);
        x.write(130, 10);
        return x;
    }

    private static Object setKeyword(Shortmessage x, int service, int sign) {
        x.setKeyword(service, sign);
        return "set";
    }

    // ---- What it is

    @Sentence(at = "What it is", says = "An object is used for at most 512 calls after it has been made")
    static void whatItIs_the512thCallAnswers(Check check) {
        Shortmessage ticks = new Shortmessage();
        for (int i = 0; i < 511; i++) {
            ticks.pass(200);
        }
        check.due("time", 102200, ticks::time);
        Shortmessage texts = new Shortmessage();
        for (int i = 0; i < 255; i++) {
            texts.write(999, 200);
            texts.erase();
        }
        check.due("the 511th", 200, () -> texts.write(159, 200));
        check.due("the 512th", 400, texts::septets);
    }

    @Sentence(at = "What it is", says = "An object is used for at most 512 calls after it has been made")
    static void whatItIs_aPartIsSentAndComesBackFor512Calls(Check check) {
        Shortmessage x = new Shortmessage();
        Made.submitParts(x, 1, 0, 1000);
        for (int i = 0; i < 127; i++) {
            x.pass(1);
            x.acknowledge(0, 2);
            x.alert(0);
            check.due("round " + i, 1, () -> x.queued(0));
        }
        x.pass(1);
        check.due("the 512th", 0, () -> x.acknowledge(0, 0));
    }

    // ---- Promise 1

    @Sentence(at = "Promise 1", says = "Creates a centre with an empty text, at the time 0.")
    static void promise1_new_emptyTextAtTime0(Check check) {
        Shortmessage x = new Shortmessage();
        check.due("time", 0, x::time);
        check.due("parts", 0, x::parts);
        check.due("septets", 0, x::septets);
        check.due("isWide", false, x::isWide);
        check.due("no part", Check.INDEX, () -> x.octet(0, 0));
        check.due("signs", 0, x::erase);
        check.due("no message", Check.INDEX, () -> x.state(0));
        check.due("no receipt", "0 " + Check.INDEX, () -> x.receipts() + " " + Check.answer(() -> x.receipt(0)));
        check.due("nothing to send", 0, () -> x.pass(1));
    }

    @Sentence(at = "Promise 1", says = "Creates a centre")
    static void promise1_new_everyCentreForItself(Check check) {
        Shortmessage used = inFullUse();
        Shortmessage x = new Shortmessage();
        check.due("time", 0, x::time);
        check.due("text", 0, x::parts);
        check.due("messages", Check.INDEX, () -> x.state(0));
        check.due("keywords", 0, () -> x.come(0, 5));
        check.due("the used one stays", 5, used::time);
    }

    // ---- Terms: which exception goes first

    @Sentence(at = "Terms", says = "IndexOutOfBoundsException is thrown for a part, message, link, receipt or "
            + "place that does not exist")
    static void terms_exceptions_indexForWhatDoesNotExist(Check check) {
        Shortmessage x = inFullUse();
        check.due("part", Check.INDEX, () -> x.signs(2));
        check.due("place in a part", Check.INDEX, () -> x.octet(0, 133));
        check.due("message", Check.INDEX, () -> x.missing(4));
        check.due("place in a message", Check.INDEX, () -> x.joined(3, 1));
        check.due("link", Check.INDEX, () -> x.tokens(3));
        check.due("receipt", Check.INDEX, () -> x.receipt(1));
    }

    @Sentence(at = "Terms", says = "IllegalArgumentException for another argument out of range")
    static void terms_exceptions_argumentForWhatIsOutOfRange(Check check) {
        Shortmessage x = inFullUse();
        check.due("sign", Check.ARGUMENT, () -> x.write(1000, 1));
        check.due("times", Check.ARGUMENT, () -> x.write(1, 0));
        check.due("receiver to submit for", Check.ARGUMENT, () -> x.submit(9, 1));
        check.due("validity", Check.ARGUMENT, () -> x.submit(0, 0));
        check.due("ticks", Check.ARGUMENT, () -> x.pass(0));
        check.due("window", Check.ARGUMENT, () -> x.setWindow(0, 0));
        check.due("outcome", Check.ARGUMENT, () -> x.acknowledge(0, 4));
        check.due("receiver to alert", Check.ARGUMENT, () -> x.alert(9));
        check.due("service", Check.ARGUMENT, () -> setKeyword(x, 0, 1));
        check.due("keyword", Check.ARGUMENT, () -> setKeyword(x, 1, -2));
        check.due("person", Check.ARGUMENT, () -> x.come(9, 1));
        check.due("sign that comes", Check.ARGUMENT, () -> x.come(0, -1));
    }

    @Sentence(at = "Terms", says = "and IllegalStateException if a call is not possible now.")
    static void terms_exceptions_stateIfNotPossibleNow(Check check) {
        check.due("write", Check.STATE, () -> Made.text(1, 400).write(1, 1));
        check.due("septets", Check.STATE, () -> Made.text(160, 1).septets());
        check.due("submit", Check.STATE, () -> new Shortmessage().submit(0, 1));
        check.due("acknowledge", Check.STATE, () -> new Shortmessage().acknowledge(0, 0));
    }

    @Sentence(at = "Terms", says = "If several apply, IndexOutOfBoundsException goes first")
    static void terms_exceptions_indexGoesBeforeArgument(Check check) {
        check.changesNothing("setWindow: link 3, window 0", Check.INDEX,
                ExceptionSentencesTest::inFullUse, x -> x.setWindow(3, 0));
        check.changesNothing("setWindow: link -1, window 11", Check.INDEX,
                ExceptionSentencesTest::inFullUse, x -> x.setWindow(-1, 11));
        check.changesNothing("acknowledge: link 3, outcome 4", Check.INDEX,
                ExceptionSentencesTest::inFullUse, x -> x.acknowledge(3, 4));
        check.changesNothing("acknowledge: link -1, outcome -1", Check.INDEX,
                ExceptionSentencesTest::inFullUse, x -> x.acknowledge(-1, -1));
    }

    @Sentence(at = "Terms", says = "If several apply, IndexOutOfBoundsException goes first")
    static void terms_exceptions_indexGoesBeforeState(Check check) {
        check.changesNothing("acknowledge: link 3, nothing under way", Check.INDEX,
                Shortmessage::new, x -> x.acknowledge(3, 0));
        check.changesNothing("acknowledge: link 3, outcome 4, nothing under way", Check.INDEX,
                Shortmessage::new, x -> x.acknowledge(3, 4));
    }

    @Sentence(at = "Terms", says = "If several apply, IndexOutOfBoundsException goes first, then "
            + "IllegalArgumentException.")
    static void terms_exceptions_argumentGoesBeforeState(Check check) {
        check.changesNothing("write: sign 1000, text full", Check.ARGUMENT,
                () -> Made.text(1, 400), x -> x.write(1000, 1));
        check.changesNothing("write: times 201, text full", Check.ARGUMENT,
                () -> Made.text(1, 400), x -> x.write(1, 201));
        check.changesNothing("submit: receiver 9, no text", Check.ARGUMENT,
                Shortmessage::new, x -> x.submit(9, 1));
        check.changesNothing("submit: validity 1001, no text", Check.ARGUMENT,
                Shortmessage::new, x -> x.submit(0, 1001));
        check.changesNothing("submit: receiver -1, 20 messages", Check.ARGUMENT, () -> {
            Shortmessage x = Made.messagesFor(0, 1, 2, 3, 4, 5, 6, 7, 8, 0, 1, 2, 3, 4, 5, 6, 7, 8, 0, 1);
            x.write(1, 1);
            return x;
        }, x -> x.submit(-1, 1));
        check.changesNothing("acknowledge: outcome 4, nothing under way", Check.ARGUMENT,
                Shortmessage::new, x -> x.acknowledge(0, 4));
        check.changesNothing("acknowledge: outcome -1, nothing under way", Check.ARGUMENT,
                Shortmessage::new, x -> x.acknowledge(0, -1));
    }

    // ---- Terms: a call that throws changes nothing

    @Sentence(at = "Terms", says = "A call that throws an exception changes nothing.")
    static void terms_exceptions_indexChangesNothing(Check check) {
        Supplier<Shortmessage> made = ExceptionSentencesTest::inFullUse;
        check.changesNothing("signs(2)", Check.INDEX, made, x -> x.signs(2));
        check.changesNothing("octets(2)", Check.INDEX, made, x -> x.octets(2));
        check.changesNothing("octet(2, 0)", Check.INDEX, made, x -> x.octet(2, 0));
        check.changesNothing("octet(0, 133)", Check.INDEX, made, x -> x.octet(0, 133));
        check.changesNothing("state(4)", Check.INDEX, made, x -> x.state(4));
        check.changesNothing("missing(4)", Check.INDEX, made, x -> x.missing(4));
        check.changesNothing("joined(4, 0)", Check.INDEX, made, x -> x.joined(4, 0));
        check.changesNothing("joined(3, 1)", Check.INDEX, made, x -> x.joined(3, 1));
        check.changesNothing("receipt(1)", Check.INDEX, made, x -> x.receipt(1));
        check.changesNothing("toggleLink(3)", Check.INDEX, made, x -> x.toggleLink(3));
        check.changesNothing("setWindow(3, 1)", Check.INDEX, made, x -> x.setWindow(3, 1));
        check.changesNothing("queued(3)", Check.INDEX, made, x -> x.queued(3));
        check.changesNothing("underWay(3)", Check.INDEX, made, x -> x.underWay(3));
        check.changesNothing("tokens(3)", Check.INDEX, made, x -> x.tokens(3));
        check.changesNothing("acknowledge(3, 0)", Check.INDEX, made, x -> x.acknowledge(3, 0));
    }

    @Sentence(at = "Terms", says = "A call that throws an exception changes nothing.")
    static void terms_exceptions_argumentChangesNothing(Check check) {
        Supplier<Shortmessage> made = ExceptionSentencesTest::inFullUse;
        check.changesNothing("write(1000, 1)", Check.ARGUMENT, made, x -> x.write(1000, 1));
        check.changesNothing("write(1, 201)", Check.ARGUMENT, made, x -> x.write(1, 201));
        check.changesNothing("submit(9, 1)", Check.ARGUMENT, made, x -> x.submit(9, 1));
        check.changesNothing("submit(0, 1001)", Check.ARGUMENT, made, x -> x.submit(0, 1001));
        check.changesNothing("pass(201)", Check.ARGUMENT, made, x -> x.pass(201));
        check.changesNothing("setWindow(1, 11)", Check.ARGUMENT, made, x -> x.setWindow(1, 11));
        check.changesNothing("acknowledge(1, 4)", Check.ARGUMENT, made, x -> x.acknowledge(1, 4));
        check.changesNothing("alert(10)", Check.ARGUMENT, made, x -> x.alert(10));
        check.changesNothing("setKeyword(5, 5)", Check.ARGUMENT, made, x -> setKeyword(x, 5, 5));
        check.changesNothing("setKeyword(0, 5)", Check.ARGUMENT, made, x -> setKeyword(x, 0, 5));
        check.changesNothing("setKeyword(1, 1000)", Check.ARGUMENT, made, x -> setKeyword(x, 1, 1000));
        check.changesNothing("come(9, 5)", Check.ARGUMENT, made, x -> x.come(9, 5));
        check.changesNothing("come(0, 1000)", Check.ARGUMENT, made, x -> x.come(0, 1000));
    }

    @Sentence(at = "Terms", says = "A call that throws an exception changes nothing.")
    static void terms_exceptions_stateChangesNothing(Check check) {
        check.changesNothing("write(999, 200) on 201 signs", Check.STATE, () -> {
            Shortmessage x = inFullUse();
            x.write(1, 39);
            return x;
        }, x -> x.write(999, 200));
        check.changesNothing("septets() of a wide text", Check.STATE, () -> {
            Shortmessage x = inFullUse();
            x.write(160, 1);
            return x;
        }, Shortmessage::septets);
        check.changesNothing("submit(0, 1) without a text", Check.STATE, () -> {
            Shortmessage x = inFullUse();
            x.erase();
            return x;
        }, x -> x.submit(0, 1));
        check.changesNothing("submit(0, 1) with 20 messages", Check.STATE, () -> {
            Shortmessage x = Made.messagesFor(0, 1, 2, 3, 4, 5, 6, 7, 8, 0, 1, 2, 3, 4, 5, 6, 7, 8, 0, 1);
            x.pass(3);
            x.write(130, 100);
            return x;
        }, x -> x.submit(0, 1));
        check.changesNothing("acknowledge(2, 3) with nothing under way", Check.STATE,
                ExceptionSentencesTest::inFullUse, x -> x.acknowledge(2, 3));
    }
}
