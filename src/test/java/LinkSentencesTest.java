/** Links and time: promises 16 to 24, and what the terms say of links, ticks and acknowledgements. */
public final class LinkSentencesTest {
    private static final int DELIVERED = 0;
    private static final int BUSY = 1;
    private static final int ABSENT = 2;
    private static final int REJECTED = 3;

    private LinkSentencesTest() {
    }

    public static void main(String[] args) {
        SentenceRunner.run(LinkSentencesTest.class);
    }

    /** With so many messages of one part for receiver 0, and the widest window on its link. */
    private static Shortmessage withQueue(int messages) {
        Shortmessage x = new Shortmessage();
        for (int i = 0; i < messages; i++) {
            Made.submit(x, 0, 1000);
        }
        x.setWindow(0, 10);
        return x;
    }

    /** With 36 parts in the queue of each link, and the widest windows. */
    private static Shortmessage withFullQueues() {
        Shortmessage x = new Shortmessage();
        for (int i = 0; i < 18; i++) {
            Made.submitParts(x, 6, i % 9, 1000);
        }
        for (int link = 0; link < 3; link++) {
            x.setWindow(link, 10);
        }
        return x;
    }

    /** With a message of so many parts for receiver 0, all of them under way. */
    private static Shortmessage withPartsUnderWay(int parts) {
        Shortmessage x = new Shortmessage();
        Made.submitParts(x, parts, 0, 1000);
        x.setWindow(0, 10);
        x.pass(2);
        return x;
    }

    private static String loads(Shortmessage x, int link) {
        return x.queued(link) + " " + x.underWay(link) + " " + x.tokens(link);
    }

    // ---- Terms: links

    @Sentence(at = "Terms", says = "A link is up at first, and has 5 tokens")
    static void terms_links_upWith5TokensAtFirst(Check check) {
        for (int l = 0; l < 3; l++) {
            int link = l;
            check.due("tokens of " + l, 5, () -> new Shortmessage().tokens(link));
            check.due("toggled, " + l + " is down", false, () -> new Shortmessage().toggleLink(link));
            check.due("it sends", 1, () -> Made.messagesFor(link).pass(1));
        }
    }

    @Sentence(at = "Terms", says = "it has never more than 5.")
    static void terms_links_neverMoreThan5Tokens(Check check) {
        Shortmessage x = Made.messagesFor(0);
        x.pass(1);
        check.due("5, and one is sent", 4, () -> x.tokens(0));
        x.pass(1);
        check.due("one more", 5, () -> x.tokens(0));
        x.pass(200);
        check.due("no more", 5, () -> x.tokens(0));
        check.due("nor elsewhere", 5, () -> x.tokens(2));
    }

    @Sentence(at = "Terms", says = "It has a window, 2 at first: so many parts may be under way on it.")
    static void terms_links_theWindowIs2AtFirst(Check check) {
        for (int link = 0; link < 3; link++) {
            Shortmessage x = Made.messagesFor(link, link, link);
            int asked = link;
            check.due("two are sent", 2, () -> x.pass(1));
            check.due("and no third", 0, () -> x.pass(10));
            check.due("one waits", "1 2 5", () -> loads(x, asked));
        }
    }

    @Sentence(at = "Terms", says = "so many parts may be under way on it.")
    static void terms_links_asManyUnderWayAsTheWindow(Check check) {
        Shortmessage x = withQueue(12);
        check.due("ten are sent", 10, () -> x.pass(20));
        check.due("ten are under way", 10, () -> x.underWay(0));
        x.acknowledge(0, DELIVERED);
        check.due("one more", 1, () -> x.pass(20));
        x.setWindow(0, 1);
        Made.acknowledged(x, 0, DELIVERED, 9);
        check.due("window 1, one under way", 0, () -> x.pass(20));
        x.acknowledge(0, DELIVERED);
        check.due("window 1, none under way", 1, () -> x.pass(20));
    }

    // ---- Terms: ticks

    @Sentence(at = "Terms", says = "With each tick the time grows by 1.")
    static void terms_ticks_theTimeGrowsBy1(Check check) {
        Shortmessage x = new Shortmessage();
        check.due("0", 0, x::time);
        x.pass(1);
        check.due("1", 1, x::time);
        x.pass(2);
        check.due("3", 3, x::time);
    }

    @Sentence(at = "Terms", says = "Then for each link, by its number: if it has fewer than 5 tokens, it gets one more")
    static void terms_ticks_oneTokenEachUpTo5(Check check) {
        Shortmessage x = withQueue(5);
        x.pass(1);
        check.due("none is left", 0, () -> x.tokens(0));
        for (int tokens = 1; tokens <= 5; tokens++) {
            x.pass(1);
            check.due("one more", tokens, () -> x.tokens(0));
        }
        x.pass(1);
        check.due("not at 5", 5, () -> x.tokens(0));
    }

    @Sentence(at = "Terms", says = "Then for each link, by its number: if it has fewer than 5 tokens, it gets one "
            + "more; and as long as it is up, has a token")
    static void terms_ticks_theTokenComesBeforeTheSending(Check check) {
        Shortmessage x = withQueue(10);
        check.due("5 of 5, and no sixth", 5, () -> x.pass(1));
        check.due("the new one is used", 1, () -> x.pass(1));
        check.due("none is left", "4 6 0", () -> loads(x, 0));
    }

    @Sentence(at = "Terms", says = "if it has fewer than 5 tokens, it gets one more")
    static void terms_ticks_aLinkThatIsDownGetsTokensToo(Check check) {
        Shortmessage x = withQueue(5);
        x.pass(1);
        x.toggleLink(0);
        x.pass(2);
        check.due("after two ticks", 2, () -> x.tokens(0));
        x.pass(200);
        check.due("never more than 5", 5, () -> x.tokens(0));
    }

    @Sentence(at = "Terms", says = "as long as it is up")
    static void terms_ticks_onlyAsLongAsItIsUp(Check check) {
        Shortmessage x = Made.messagesFor(0, 1);
        x.toggleLink(0);
        check.due("only link 1 sends", 1, () -> x.pass(1));
        check.due("nothing on link 0", "1 0 5", () -> loads(x, 0));
        x.toggleLink(0);
        check.due("up: nothing before a tick", "1 0 5", () -> loads(x, 0));
        check.due("up: at the next tick", 1, () -> x.pass(1));
    }

    @Sentence(at = "Terms", says = "has a token")
    static void terms_ticks_onlyWithAToken(Check check) {
        Shortmessage x = withQueue(10);
        x.pass(1);
        check.due("no token is left", "5 5 0", () -> loads(x, 0));
        check.due("one a tick", 3, () -> x.pass(3));
        check.due("though the window is not full", "2 8 0", () -> loads(x, 0));
    }

    @Sentence(at = "Terms", says = "and fewer parts under way than its window")
    static void terms_ticks_onlyWithFewerUnderWayThanTheWindow(Check check) {
        Shortmessage x = withQueue(8);
        x.setWindow(0, 4);
        check.due("four", 4, () -> x.pass(1));
        check.due("as many as the window: none", 0, () -> x.pass(5));
        x.setWindow(0, 3);
        x.acknowledge(0, DELIVERED);
        check.due("as many as a smaller one: none", 0, () -> x.pass(5));
        x.acknowledge(0, DELIVERED);
        check.due("one fewer: one", 1, () -> x.pass(5));
        x.setWindow(0, 1);
        check.due("more than the window: none is taken back", 3, () -> x.underWay(0));
        check.due("more than the window: none", 0, () -> x.pass(5));
        x.setWindow(0, 5);
        check.due("two fewer: two", 2, () -> x.pass(1));
    }

    @Sentence(at = "Terms", says = "the first part of its queue that is to be tried at the time of now or earlier")
    static void terms_ticks_theFirstThatIsToBeTried(Check check) {
        Shortmessage x = Made.messagesFor(0, 0, 0);
        x.setWindow(0, 1);
        x.pass(1);
        x.acknowledge(0, BUSY);
        x.pass(1);
        check.due("the second, then the first is tried at 3", 10, () -> x.acknowledge(0, BUSY));
        x.pass(1);
        check.due("at 3 the third stands ahead of it", 20, () -> x.acknowledge(0, DELIVERED));
        x.pass(1);
        check.due("at 4 the first stands ahead of the second", 0, () -> x.acknowledge(0, DELIVERED));
        x.pass(1);
        check.due("then the second", 10, () -> x.acknowledge(0, DELIVERED));
    }

    @Sentence(at = "Terms", says = "that is to be tried at the time of now or earlier")
    static void terms_ticks_laterOnesArePassedOver(Check check) {
        Shortmessage x = Made.messagesFor(0);
        x.pass(1);
        x.acknowledge(0, BUSY);
        Made.submit(x, 0, 1000);
        x.setWindow(0, 1);
        check.due("one is sent", 1, () -> x.pass(1));
        check.due("the one behind", 10, () -> x.acknowledge(0, DELIVERED));
        check.due("at its time", 1, () -> x.pass(1));
        check.due("the one ahead", 0, () -> x.acknowledge(0, DELIVERED));
    }

    @Sentence(at = "Terms", says = "and does not wait for an alert, is sent")
    static void terms_ticks_thoseThatWaitForAnAlertArePassedOver(Check check) {
        Shortmessage x = Made.messagesFor(0);
        x.pass(1);
        x.acknowledge(0, ABSENT);
        Made.submit(x, 0, 1000);
        check.due("only the one behind", 1, () -> x.pass(10));
        check.due("it is message 1", 10, () -> x.acknowledge(0, DELIVERED));
        check.due("the other waits on", "1 0 5", () -> loads(x, 0));
    }

    @Sentence(at = "Terms", says = "it leaves the queue, is under way, and takes a token.")
    static void terms_ticks_whatBecomesOfASentPart(Check check) {
        Shortmessage x = Made.messagesFor(0, 0, 0);
        check.due("before", "3 0 5", () -> loads(x, 0));
        x.pass(1);
        check.due("two are sent", "1 2 3", () -> loads(x, 0));
        check.due("another link has nothing of it", "0 0 5", () -> loads(x, 1));
    }

    // ---- Terms: acknowledgement

    @Sentence(at = "Terms", says = "It is told for a link what became of the part that has been under way the "
            + "longest on it, which is not under way then")
    static void terms_acknowledgement_theLongestUnderWay(Check check) {
        Shortmessage x = Made.messagesFor(1, 4, 7, 2);
        x.pass(1);
        x.acknowledge(1, BUSY);
        x.pass(1);
        check.due("two on link 1", 2, () -> x.underWay(1));
        check.due("the one sent at 1", 10, () -> x.acknowledge(1, DELIVERED));
        check.due("is not under way then", 1, () -> x.underWay(1));
        check.due("the one sent at 2", 20, () -> x.acknowledge(1, DELIVERED));
        check.due("link 2 keeps its own", 1, () -> x.underWay(2));
    }

    @Sentence(at = "Terms", says = "0 delivered: when all parts of the message are, the message is delivered.")
    static void terms_acknowledgement_deliveredWhenAllPartsAre(Check check) {
        Shortmessage x = withPartsUnderWay(6);
        for (int part = 0; part < 5; part++) {
            int told = part;
            check.due("part " + part, told, () -> x.acknowledge(0, DELIVERED));
            check.due("it waits", "0 0", () -> x.state(0) + " " + x.receipts());
        }
        check.due("the last part", 5, () -> x.acknowledge(0, DELIVERED));
        check.due("delivered", "1 1", () -> x.state(0) + " " + x.receipt(0));
        check.due("one part alone", 1, () -> {
            Shortmessage y = withPartsUnderWay(1);
            y.acknowledge(0, DELIVERED);
            return y.state(0);
        });
    }

    @Sentence(at = "Terms", says = "0 delivered: when all parts of the message are, the message is delivered.")
    static void terms_acknowledgement_deliveredAlsoAfterFailures(Check check) {
        Shortmessage x = withPartsUnderWay(2);
        x.acknowledge(0, BUSY);
        x.acknowledge(0, DELIVERED);
        check.due("the first part is missing", "0 1", () -> x.state(0) + " " + x.missing(0));
        x.pass(2);
        x.acknowledge(0, DELIVERED);
        check.due("all have come", "1 0", () -> x.state(0) + " " + x.missing(0));
    }

    @Sentence(at = "Terms", says = "1 busy: it has failed once more. At the fourth failure of a part the message "
            + "is rejected")
    static void terms_acknowledgement_theFourthFailureRejects(Check check) {
        Shortmessage x = withPartsUnderWay(1);
        for (int failure = 1; failure <= 3; failure++) {
            x.acknowledge(0, BUSY);
            check.due("failure " + failure, "0 1", () -> x.state(0) + " " + x.queued(0));
            x.pass(8);
        }
        x.acknowledge(0, BUSY);
        check.due("failure 4", "2 0", () -> x.state(0) + " " + x.queued(0));
        check.due("with a receipt", "2", () -> Made.receipts(x));
        check.due("nothing is sent any more", 0, () -> x.pass(20));
    }

    @Sentence(at = "Terms", says = "At the fourth failure of a part the message is rejected")
    static void terms_acknowledgement_failuresAreCountedForEachPart(Check check) {
        Shortmessage x = withPartsUnderWay(2);
        for (int failure = 1; failure <= 3; failure++) {
            Made.acknowledged(x, 0, BUSY, 2);
            x.pass(8);
        }
        check.due("six failures, three of each", 0, () -> x.state(0));
        x.acknowledge(0, DELIVERED);
        check.due("the first is delivered", "0 2", () -> x.state(0) + " " + x.missing(0));
        x.acknowledge(0, BUSY);
        check.due("the fourth of the second", 2, () -> x.state(0));
    }

    @Sentence(at = "Terms", says = "At the fourth failure of a part the message is rejected")
    static void terms_acknowledgement_failuresAreKeptBetween(Check check) {
        Shortmessage x = withPartsUnderWay(1);
        for (int failure = 1; failure <= 3; failure++) {
            x.acknowledge(0, BUSY);
            x.pass(8);
            x.acknowledge(0, ABSENT);
            x.alert(0);
            x.pass(1);
            x.toggleLink(0);
            x.toggleLink(0);
            x.pass(1);
            check.due("failure " + failure + ", absent, and down", "0 1", () -> x.state(0) + " " + x.underWay(0));
        }
        x.acknowledge(0, BUSY);
        check.due("failure 4", 2, () -> x.state(0));
    }

    @Sentence(at = "Terms", says = "otherwise the part is put at the end of the queue, to be tried 2^(its number of "
            + "failures) ticks later.")
    static void terms_acknowledgement_busyWaits2And4And8Ticks(Check check) {
        Shortmessage x = withPartsUnderWay(1);
        int[] waits = {2, 4, 8};
        for (int wait : waits) {
            x.acknowledge(0, BUSY);
            check.due("one tick before " + wait, 0, () -> x.pass(wait - 1));
            check.due("at " + wait, 1, () -> x.pass(1));
        }
    }

    @Sentence(at = "Terms", says = "otherwise the part is put at the end of the queue")
    static void terms_acknowledgement_busyGoesToTheEnd(Check check) {
        Shortmessage x = Made.messagesFor(0, 0, 0);
        x.setWindow(0, 1);
        x.pass(1);
        x.acknowledge(0, BUSY);
        x.toggleLink(0);
        x.pass(5);
        x.toggleLink(0);
        x.setWindow(0, 3);
        x.pass(1);
        check.due("behind the others", "10 20 0", () -> Made.acknowledged(x, 0, DELIVERED, 3));
    }

    @Sentence(at = "Terms", says = "2 absent: the part is put at the end of the queue, and waits for an alert of "
            + "its receiver")
    static void terms_acknowledgement_absentWaitsForItsReceiver(Check check) {
        Shortmessage x = Made.messagesFor(0);
        x.pass(1);
        x.acknowledge(0, ABSENT);
        check.due("queued", "1 0", () -> x.queued(0) + " " + x.underWay(0));
        check.due("not sent", 0, () -> x.pass(200));
        check.due("not by another of its link", 0, () -> x.alert(3));
        check.due("nor by another link's", 0, () -> x.alert(1));
        check.due("still not sent", 0, () -> x.pass(1));
        check.due("by its own", 1, () -> x.alert(0));
        check.due("sent at the next tick", 1, () -> x.pass(1));
    }

    @Sentence(at = "Terms", says = "2 absent: the part is put at the end of the queue")
    static void terms_acknowledgement_absentGoesToTheEnd(Check check) {
        Shortmessage x = Made.messagesFor(0, 0, 0);
        x.setWindow(0, 1);
        x.pass(1);
        x.acknowledge(0, ABSENT);
        x.alert(0);
        x.setWindow(0, 3);
        x.pass(1);
        check.due("behind the others", "10 20 0", () -> Made.acknowledged(x, 0, DELIVERED, 3));
    }

    @Sentence(at = "Terms", says = "which ends the waiting of all parts of messages for that receiver that are in "
            + "the queue.")
    static void terms_acknowledgement_anAlertEndsTheWaitingOfAll(Check check) {
        Shortmessage x = new Shortmessage();
        Made.submitParts(x, 2, 0, 1000);
        Made.submit(x, 3, 1000);
        Made.submitParts(x, 2, 0, 1000);
        x.setWindow(0, 5);
        x.pass(1);
        Made.acknowledged(x, 0, ABSENT, 5);
        check.due("four parts of two messages", 4, () -> x.alert(0));
        check.due("they are sent", 4, () -> x.pass(5));
        check.due("in their order", "0 1 20 21", () -> Made.acknowledged(x, 0, DELIVERED, 4));
        check.due("the other one waits on", 1, () -> x.queued(0));
    }

    @Sentence(at = "Terms", says = "which ends the waiting of all parts of messages for that receiver that are in "
            + "the queue.")
    static void terms_acknowledgement_anAlertIsNotKeptForThoseUnderWay(Check check) {
        Shortmessage x = Made.messagesFor(0);
        x.pass(1);
        check.due("under way", 0, () -> x.alert(0));
        x.acknowledge(0, ABSENT);
        check.due("it waits all the same", 0, () -> x.pass(10));
        check.due("for the next alert", 1, () -> x.alert(0));
    }

    @Sentence(at = "Terms", says = "2 absent")
    static void terms_acknowledgement_absentIsNoFailure(Check check) {
        Shortmessage x = withPartsUnderWay(1);
        for (int i = 0; i < 5; i++) {
            x.acknowledge(0, ABSENT);
            x.alert(0);
            x.pass(1);
        }
        check.due("after five", 0, () -> x.state(0));
        x.acknowledge(0, BUSY);
        check.due("the first failure: not after one tick", 0, () -> x.pass(1));
        check.due("but after two", 1, () -> x.pass(1));
    }

    @Sentence(at = "Terms", says = "3 rejected: the message is rejected.")
    static void terms_acknowledgement_rejectedAtOnce(Check check) {
        Shortmessage x = new Shortmessage();
        Made.submitParts(x, 6, 0, 1000);
        Made.submit(x, 0, 1000);
        x.pass(1);
        check.due("part 0", 0, () -> x.acknowledge(0, REJECTED));
        check.due("rejected, the other message not", "2 0", () -> Made.states(x, 2));
        check.due("with a receipt", "2", () -> Made.receipts(x));
    }

    @Sentence(at = "Terms", says = "If the message does not wait any more, nothing of this is done.")
    static void terms_acknowledgement_nothingIsDoneForARejectedMessage(Check check) {
        for (int outcome = 0; outcome <= 3; outcome++) {
            Shortmessage x = withPartsUnderWay(2);
            x.acknowledge(0, REJECTED);
            int told = outcome;
            check.due("outcome " + outcome, 1, () -> x.acknowledge(0, told));
            check.due("queue and way", "0 0", () -> x.queued(0) + " " + x.underWay(0));
            check.due("nothing is sent later", 0, () -> x.pass(9));
            check.due("state and missing", "2 3", () -> x.state(0) + " " + x.missing(0));
            check.due("joined", -1, () -> x.joined(0, 67));
            check.due("receipts", "2", () -> Made.receipts(x));
        }
    }

    @Sentence(at = "Terms", says = "If the message does not wait any more, nothing of this is done.")
    static void terms_acknowledgement_nothingIsDoneForAnExpiredMessage(Check check) {
        for (int outcome = 0; outcome <= 3; outcome++) {
            Shortmessage x = new Shortmessage();
            Made.submit(x, 0, 2);
            x.pass(2);
            int told = outcome;
            check.due("outcome " + outcome, 0, () -> x.acknowledge(0, told));
            check.due("queue and way", "0 0 5", () -> loads(x, 0));
            check.due("no alert is waited for", 0, () -> x.alert(0));
            check.due("state and missing", "3 1", () -> x.state(0) + " " + x.missing(0));
            check.due("receipts", "3", () -> Made.receipts(x));
        }
    }

    // ---- Terms: a link goes down

    @Sentence(at = "Terms", says = "When a link goes down, all its parts under way of messages that wait go back "
            + "to the front of the queue, in the order in which they were sent")
    static void terms_down_backToTheFrontInTheOrderOfSending(Check check) {
        Shortmessage x = Made.messagesFor(0, 0, 0, 0);
        x.setWindow(0, 3);
        x.pass(1);
        x.toggleLink(0);
        check.due("all are queued", "4 0 2", () -> loads(x, 0));
        x.toggleLink(0);
        x.setWindow(0, 4);
        x.pass(3);
        check.due("ahead of the fourth", "0 10 20 30", () -> Made.acknowledged(x, 0, DELIVERED, 4));
    }

    @Sentence(at = "Terms", says = "in the order in which they were sent")
    static void terms_down_notInTheOrderOfTheirNumbers(Check check) {
        Shortmessage x = Made.messagesFor(0, 0);
        x.pass(1);
        x.acknowledge(0, BUSY);
        Made.submit(x, 0, 1000);
        x.setWindow(0, 3);
        x.pass(2);
        x.toggleLink(0);
        x.toggleLink(0);
        x.pass(1);
        check.due("sent at 1, at 2, and at 3", "10 20 0", () -> Made.acknowledged(x, 0, DELIVERED, 3));
    }

    @Sentence(at = "Terms", says = "to be tried at once")
    static void terms_down_toBeTriedAtOnce(Check check) {
        Shortmessage x = withPartsUnderWay(1);
        x.acknowledge(0, BUSY);
        x.pass(2);
        x.toggleLink(0);
        x.toggleLink(0);
        check.due("at the next tick", 1, () -> x.pass(1));
        x.acknowledge(0, BUSY);
        check.due("it was one failure: the second waits 4", 0, () -> x.pass(3));
        check.due("and not longer", 1, () -> x.pass(1));
    }

    @Sentence(at = "Terms", says = "others are gone.")
    static void terms_down_thoseOfEndedMessagesAreGone(Check check) {
        Shortmessage x = new Shortmessage();
        Made.submitParts(x, 3, 0, 1000);
        Made.submit(x, 0, 1000);
        Made.submit(x, 0, 2);
        x.setWindow(0, 5);
        x.pass(2);
        x.acknowledge(0, REJECTED);
        check.due("four stay under way", 4, () -> x.underWay(0));
        x.toggleLink(0);
        check.due("one of a message that waits is queued", "1 0", () -> x.queued(0) + " " + x.underWay(0));
        x.toggleLink(0);
        check.due("it alone is sent", 1, () -> x.pass(10));
        check.due("it is message 1", 10, () -> x.acknowledge(0, DELIVERED));
        check.due("states", "2 1 3", () -> Made.states(x, 3));
        check.due("receipts", "23 2 11", () -> Made.receipts(x));
    }

    // ---- Promise 16: pass

    @Sentence(at = "Promise 16", says = "Lets ticks pass.")
    static void promise16_pass_asManyAsAreAsked(Check check) {
        Shortmessage x = new Shortmessage();
        Made.submit(x, 0, 200);
        x.pass(199);
        check.due("199", "199 0", () -> x.time() + " " + x.state(0));
        x.pass(1);
        check.due("200", "200 3", () -> x.time() + " " + x.state(0));
    }

    @Sentence(at = "Promise 16", says = "`ticks`: 1 to 200")
    static void promise16_pass_1To200(Check check) {
        Shortmessage x = new Shortmessage();
        check.due("1", 0, () -> x.pass(1));
        check.due("200", 0, () -> x.pass(200));
        check.due("both have passed", 201, x::time);
    }

    @Sentence(at = "Promise 16", says = "Returns how many parts are sent in them.")
    static void promise16_pass_returnsThePartsOfAllLinksAndTicks(Check check) {
        check.due("none", 0, () -> new Shortmessage().pass(200));
        check.due("one on each link", 3, () -> Made.messagesFor(0, 1, 2).pass(1));
        check.due("two on two links", 4, () -> Made.messagesFor(0, 3, 6, 2, 5, 8).pass(200));
        check.due("five, and one in each tick", 8, () -> withQueue(10).pass(4));
        check.due("as many as can be under way", 30, () -> withFullQueues().pass(200));
        Shortmessage x = Made.messagesFor(0);
        x.pass(1);
        check.due("those under way are not counted again", 0, () -> x.pass(1));
        x.acknowledge(0, BUSY);
        check.due("those sent again are", 1, () -> x.pass(2));
    }

    @Sentence(at = "Promise 16", says = "Throws `IllegalArgumentException` if ticks is out of range")
    static void promise16_pass_outOfRange(Check check) {
        for (int ticks : Made.outside(1, 200)) {
            check.changesNothing("pass(" + ticks + ")", Check.ARGUMENT,
                    () -> Made.messagesFor(0, 1, 2), x -> x.pass(ticks));
        }
    }

    // ---- Promise 17: time

    @Sentence(at = "Promise 17", says = "Returns the time.")
    static void promise17_time_0AtFirst(Check check) {
        Shortmessage x = new Shortmessage();
        check.due("0", 0, x::time);
        Made.submit(x, 0, 1);
        x.toggleLink(1);
        x.come(0, 1);
        check.due("no other call lets it grow", 0, x::time);
    }

    @Sentence(at = "Promise 17", says = "Returns the number of ticks.")
    static void promise17_time_isTheNumberOfTicks(Check check) {
        Shortmessage x = new Shortmessage();
        x.pass(1);
        check.due("1", 1, x::time);
        x.pass(200);
        check.due("201", 201, x::time);
        Made.pass(x, 100000);
        check.due("100201", 100201, x::time);
    }

    // ---- Promise 18: toggleLink

    @Sentence(at = "Promise 18", says = "Lets a link go down, or come up.")
    static void promise18_toggleLink_downAndUp(Check check) {
        Shortmessage x = Made.messagesFor(0, 1, 2);
        x.toggleLink(1);
        check.due("the other two send", 2, () -> x.pass(1));
        x.toggleLink(1);
        check.due("up again", 1, () -> x.pass(1));
        x.toggleLink(1);
        check.due("back in the queue", "1 0", () -> x.queued(1) + " " + x.underWay(1));
        check.due("the others keep theirs", "1 1", () -> x.underWay(0) + " " + x.underWay(2));
    }

    @Sentence(at = "Promise 18", says = "Lets a link go down, or come up.")
    static void promise18_toggleLink_keepsTokensAndWindow(Check check) {
        Shortmessage x = withQueue(4);
        x.pass(1);
        x.toggleLink(0);
        check.due("down", 1, () -> x.tokens(0));
        x.toggleLink(0);
        check.due("up", 1, () -> x.tokens(0));
        check.due("the window", 10, () -> x.setWindow(0, 10));
    }

    @Sentence(at = "Promise 18", says = "`link`: 0 to 2")
    static void promise18_toggleLink_0To2(Check check) {
        Shortmessage x = new Shortmessage();
        check.due("0", false, () -> x.toggleLink(0));
        check.due("2", false, () -> x.toggleLink(2));
        check.due("1 is not toggled by them", false, () -> x.toggleLink(1));
    }

    @Sentence(at = "Promise 18", says = "Returns true if it is up then.")
    static void promise18_toggleLink_trueIfItIsUpThen(Check check) {
        Shortmessage x = new Shortmessage();
        check.due("down", false, () -> x.toggleLink(0));
        check.due("up", true, () -> x.toggleLink(0));
        check.due("down again", false, () -> x.toggleLink(0));
    }

    @Sentence(at = "Promise 18", says = "Throws `IndexOutOfBoundsException` if there is no such link")
    static void promise18_toggleLink_noSuchLink(Check check) {
        for (int link : Made.outside(0, 2)) {
            check.changesNothing("toggleLink(" + link + ")", Check.INDEX,
                    () -> withPartsUnderWay(2), x -> x.toggleLink(link));
        }
    }

    // ---- Promise 19: setWindow

    @Sentence(at = "Promise 19", says = "Sets the window of a link.")
    static void promise19_setWindow_ofThisLinkAlone(Check check) {
        Shortmessage x = Made.messagesFor(0, 0, 0, 1, 1, 1, 2, 2, 2);
        x.setWindow(0, 1);
        x.setWindow(2, 3);
        x.pass(1);
        check.due("1, 2 and 3", "1 2 3", () -> x.underWay(0) + " " + x.underWay(1) + " " + x.underWay(2));
    }

    @Sentence(at = "Promise 19", says = "`link`: 0 to 2")
    static void promise19_setWindow_link0To2(Check check) {
        Shortmessage x = new Shortmessage();
        check.due("0", 2, () -> x.setWindow(0, 5));
        check.due("2", 2, () -> x.setWindow(2, 5));
        check.due("1 keeps its own", 2, () -> x.setWindow(1, 5));
    }

    @Sentence(at = "Promise 19", says = "`window`: 1 to 10")
    static void promise19_setWindow_window1To10(Check check) {
        Shortmessage x = withQueue(12);
        check.due("1", 10, () -> x.setWindow(0, 1));
        check.due("one is sent", 1, () -> x.pass(20));
        check.due("10", 1, () -> x.setWindow(0, 10));
        check.due("nine more are sent", 9, () -> x.pass(20));
    }

    @Sentence(at = "Promise 19", says = "Returns the window before.")
    static void promise19_setWindow_returnsTheWindowBefore(Check check) {
        Shortmessage x = new Shortmessage();
        check.due("2 at first", 2, () -> x.setWindow(1, 10));
        check.due("10", 10, () -> x.setWindow(1, 1));
        check.due("1", 1, () -> x.setWindow(1, 1));
        check.due("1 again", 1, () -> x.setWindow(1, 2));
    }

    @Sentence(at = "Promise 19", says = "Throws `IndexOutOfBoundsException` if there is no such link")
    static void promise19_setWindow_noSuchLink(Check check) {
        for (int link : Made.outside(0, 2)) {
            check.changesNothing("setWindow(" + link + ", 5)", Check.INDEX,
                    () -> Made.messagesFor(0, 0, 0), x -> x.setWindow(link, 5));
        }
    }

    @Sentence(at = "Promise 19", says = "Throws `IllegalArgumentException` if window is out of range")
    static void promise19_setWindow_windowOutOfRange(Check check) {
        for (int window : Made.outside(1, 10)) {
            check.changesNothing("setWindow(0, " + window + ")", Check.ARGUMENT,
                    () -> Made.messagesFor(0, 0, 0), x -> x.setWindow(0, window));
        }
    }

    // ---- Promise 20: queued

    @Sentence(at = "Promise 20", says = "Returns the number of parts in the queue of a link.")
    static void promise20_queued_alsoThoseThatWait(Check check) {
        Shortmessage x = withPartsUnderWay(3);
        check.due("none: all are under way", 0, () -> x.queued(0));
        x.acknowledge(0, BUSY);
        check.due("a busy one", 1, () -> x.queued(0));
        x.acknowledge(0, ABSENT);
        check.due("an absent one", 2, () -> x.queued(0));
        x.acknowledge(0, DELIVERED);
        check.due("not a delivered one", 2, () -> x.queued(0));
        x.toggleLink(0);
        check.due("also when it is down", 2, () -> x.queued(0));
    }

    @Sentence(at = "Promise 20", says = "`link`: 0 to 2")
    static void promise20_queued_link0To2(Check check) {
        Shortmessage x = Made.messagesFor(0, 1, 1, 2, 2, 2);
        check.due("each its own", "1 2 3", () -> x.queued(0) + " " + x.queued(1) + " " + x.queued(2));
    }

    @Sentence(at = "Promise 20", says = "Returns the number.")
    static void promise20_queued_from0To120(Check check) {
        check.due("none", 0, () -> new Shortmessage().queued(0));
        Shortmessage x = new Shortmessage();
        for (int i = 0; i < 20; i++) {
            Made.submitParts(x, 6, 1, 1000);
        }
        check.due("twenty messages of six parts", 120, () -> x.queued(1));
        x.pass(1);
        check.due("two are sent", 118, () -> x.queued(1));
        x.toggleLink(1);
        check.due("and come back", 120, () -> x.queued(1));
        Made.pass(x, 1000);
        check.due("all expire", 0, () -> x.queued(1));
    }

    @Sentence(at = "Promise 20", says = "Throws `IndexOutOfBoundsException` if there is no such link")
    static void promise20_queued_noSuchLink(Check check) {
        for (int link : Made.outside(0, 2)) {
            check.changesNothing("queued(" + link + ")", Check.INDEX,
                    () -> Made.messagesFor(0, 1, 2), x -> x.queued(link));
        }
    }

    // ---- Promise 21: underWay

    @Sentence(at = "Promise 21", says = "Returns the number of parts under way on a link.")
    static void promise21_underWay_untilTheyAreAcknowledged(Check check) {
        Shortmessage x = Made.messagesFor(0, 0);
        check.due("queued", 0, () -> x.underWay(0));
        x.pass(1);
        check.due("sent", 2, () -> x.underWay(0));
        x.pass(200);
        check.due("for long", 2, () -> x.underWay(0));
        x.acknowledge(0, BUSY);
        check.due("busy", 1, () -> x.underWay(0));
        x.acknowledge(0, ABSENT);
        check.due("absent", 0, () -> x.underWay(0));
    }

    @Sentence(at = "Promise 21", says = "`link`: 0 to 2")
    static void promise21_underWay_link0To2(Check check) {
        Shortmessage x = Made.messagesFor(0, 2, 2);
        x.pass(1);
        check.due("each its own", "1 0 2", () -> x.underWay(0) + " " + x.underWay(1) + " " + x.underWay(2));
    }

    @Sentence(at = "Promise 21", says = "Returns the number.")
    static void promise21_underWay_from0To10(Check check) {
        Shortmessage x = withQueue(12);
        check.due("none", 0, () -> x.underWay(0));
        x.pass(20);
        check.due("ten", 10, () -> x.underWay(0));
        x.toggleLink(0);
        check.due("none when it is down", 0, () -> x.underWay(0));
    }

    @Sentence(at = "Promise 21", says = "Throws `IndexOutOfBoundsException` if there is no such link")
    static void promise21_underWay_noSuchLink(Check check) {
        for (int link : Made.outside(0, 2)) {
            check.changesNothing("underWay(" + link + ")", Check.INDEX,
                    () -> withPartsUnderWay(2), x -> x.underWay(link));
        }
    }

    // ---- Promise 22: tokens

    @Sentence(at = "Promise 22", says = "Returns the number of tokens of a link.")
    static void promise22_tokens_takenBySendingAlone(Check check) {
        Shortmessage x = Made.messagesFor(0, 0);
        check.due("queued", 5, () -> x.tokens(0));
        x.pass(1);
        check.due("two are sent", 3, () -> x.tokens(0));
        x.acknowledge(0, DELIVERED);
        x.acknowledge(0, BUSY);
        check.due("none comes back", 3, () -> x.tokens(0));
    }

    @Sentence(at = "Promise 22", says = "`link`: 0 to 2")
    static void promise22_tokens_link0To2(Check check) {
        Shortmessage x = Made.messagesFor(0, 2, 2);
        x.pass(1);
        check.due("each its own", "4 5 3", () -> x.tokens(0) + " " + x.tokens(1) + " " + x.tokens(2));
    }

    @Sentence(at = "Promise 22", says = "Returns 0 to 5.")
    static void promise22_tokens_from0To5(Check check) {
        Shortmessage x = withQueue(6);
        check.due("5", 5, () -> x.tokens(0));
        x.pass(1);
        check.due("0", 0, () -> x.tokens(0));
        x.pass(1);
        check.due("never below", 0, () -> x.tokens(0));
        x.pass(6);
        check.due("never above", 5, () -> x.tokens(0));
    }

    @Sentence(at = "Promise 22", says = "Throws `IndexOutOfBoundsException` if there is no such link")
    static void promise22_tokens_noSuchLink(Check check) {
        for (int link : Made.outside(0, 2)) {
            check.changesNothing("tokens(" + link + ")", Check.INDEX,
                    () -> withPartsUnderWay(2), x -> x.tokens(link));
        }
    }

    // ---- Promise 23: acknowledge

    @Sentence(at = "Promise 23", says = "Tells what became of the part that has been under way the longest on a link.")
    static void promise23_acknowledge_theLongestFirst(Check check) {
        Shortmessage x = withPartsUnderWay(3);
        check.due("in the order of sending", "0 1 2", () -> Made.acknowledged(x, 0, DELIVERED, 3));
    }

    @Sentence(at = "Promise 23", says = "`link`: 0 to 2")
    static void promise23_acknowledge_link0To2(Check check) {
        Shortmessage x = Made.messagesFor(2, 1, 0);
        x.pass(1);
        check.due("0", 20, () -> x.acknowledge(0, DELIVERED));
        check.due("1", 10, () -> x.acknowledge(1, DELIVERED));
        check.due("2", 0, () -> x.acknowledge(2, DELIVERED));
    }

    @Sentence(at = "Promise 23", says = "`outcome`: 0 to 3")
    static void promise23_acknowledge_outcome0To3(Check check) {
        String[] due = {"1 0", "0 1", "0 1", "2 0"};
        for (int outcome = 0; outcome <= 3; outcome++) {
            Shortmessage x = withPartsUnderWay(1);
            int told = outcome;
            check.due("outcome " + outcome, 0, () -> x.acknowledge(0, told));
            check.due("state and queue", due[told], () -> x.state(0) + " " + x.queued(0));
        }
    }

    @Sentence(at = "Promise 23", says = "Returns 10 * message + part.")
    static void promise23_acknowledge_theFirstAndTheLastPart(Check check) {
        check.due("message 0, part 0", 0, () -> withPartsUnderWay(1).acknowledge(0, DELIVERED));
        Shortmessage x = new Shortmessage();
        for (int i = 0; i < 19; i++) {
            Made.submit(x, 0, 1);
        }
        Made.submitParts(x, 6, 0, 1000);
        x.setWindow(0, 10);
        x.pass(5);
        check.due("message 19, parts 0 to 5", "190 191 192 193 194 195", () -> Made.acknowledged(x, 0, DELIVERED, 6));
    }

    @Sentence(at = "Promise 23", says = "Throws `IndexOutOfBoundsException` if there is no such link")
    static void promise23_acknowledge_noSuchLink(Check check) {
        for (int link : Made.outside(0, 2)) {
            check.changesNothing("acknowledge(" + link + ", 0)", Check.INDEX,
                    () -> withPartsUnderWay(2), x -> x.acknowledge(link, DELIVERED));
        }
    }

    @Sentence(at = "Promise 23", says = "Throws `IllegalArgumentException` if outcome is out of range")
    static void promise23_acknowledge_outcomeOutOfRange(Check check) {
        for (int outcome : Made.outside(0, 3)) {
            check.changesNothing("acknowledge(0, " + outcome + ")", Check.ARGUMENT,
                    () -> withPartsUnderWay(2), x -> x.acknowledge(0, outcome));
        }
    }

    @Sentence(at = "Promise 23", says = "Throws `IllegalStateException` if no part is under way on it")
    static void promise23_acknowledge_nothingUnderWay(Check check) {
        check.changesNothing("new", Check.STATE, Shortmessage::new, x -> x.acknowledge(0, DELIVERED));
        check.changesNothing("queued", Check.STATE, () -> Made.messagesFor(0), x -> x.acknowledge(0, REJECTED));
        check.changesNothing("under way on another link", Check.STATE,
                () -> withPartsUnderWay(1), x -> x.acknowledge(1, REJECTED));
        check.changesNothing("acknowledged", Check.STATE, () -> {
            Shortmessage x = withPartsUnderWay(1);
            x.acknowledge(0, BUSY);
            return x;
        }, x -> x.acknowledge(0, BUSY));
        check.changesNothing("down", Check.STATE, () -> {
            Shortmessage x = withPartsUnderWay(2);
            x.toggleLink(0);
            return x;
        }, x -> x.acknowledge(0, DELIVERED));
    }

    // ---- Promise 24: alert

    @Sentence(at = "Promise 24", says = "Tells that a receiver can be reached.")
    static void promise24_alert_thenItsPartsAreSent(Check check) {
        for (int receiver = 0; receiver <= 8; receiver++) {
            Shortmessage x = Made.messagesFor(receiver);
            int link = receiver % 3;
            x.pass(1);
            x.acknowledge(link, ABSENT);
            int told = receiver;
            check.due("receiver " + receiver, 1, () -> x.alert(told));
            check.due("sent", 1, () -> x.pass(1));
        }
    }

    @Sentence(at = "Promise 24", says = "`receiver`: 0 to 8")
    static void promise24_alert_receiver0To8(Check check) {
        check.due("0", 0, () -> new Shortmessage().alert(0));
        check.due("8", 0, () -> new Shortmessage().alert(8));
    }

    @Sentence(at = "Promise 24", says = "Returns how many parts do not wait for that any more.")
    static void promise24_alert_returnsThoseThatWaited(Check check) {
        check.due("none", 0, () -> new Shortmessage().alert(0));
        check.due("queued, but not absent", 0, () -> Made.messagesFor(0).alert(0));
        check.due("under way", 0, () -> withPartsUnderWay(3).alert(0));
        Shortmessage x = withPartsUnderWay(3);
        x.acknowledge(0, ABSENT);
        x.acknowledge(0, BUSY);
        x.acknowledge(0, ABSENT);
        check.due("two absent, one busy", 2, () -> x.alert(0));
        check.due("they wait no more", 0, () -> x.alert(0));
        check.due("the busy one is not tried sooner", 2, () -> x.pass(1));
    }

    @Sentence(at = "Promise 24", says = "Throws `IllegalArgumentException` if receiver is out of range")
    static void promise24_alert_outOfRange(Check check) {
        for (int receiver : Made.outside(0, 8)) {
            check.changesNothing("alert(" + receiver + ")", Check.ARGUMENT, () -> {
                Shortmessage x = withPartsUnderWay(2);
                Made.acknowledged(x, 0, ABSENT, 2);
                return x;
            }, x -> x.alert(receiver));
        }
    }
}
