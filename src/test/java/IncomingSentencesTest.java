/** Incoming texts: promises 25 and 26, and what the terms say of keywords and sessions. */
public final class IncomingSentencesTest {
    private IncomingSentencesTest() {
    }

    public static void main(String[] args) {
        SentenceRunner.run(IncomingSentencesTest.class);
    }

    /** With the keyword 5 of service 2 and the keyword 6 of service 3. */
    private static Shortmessage withKeywords() {
        Shortmessage x = new Shortmessage();
        x.setKeyword(2, 5);
        x.setKeyword(3, 6);
        return x;
    }

    /** With a session of person 0 with service 2, begun at the time 0. */
    private static Shortmessage withSession() {
        Shortmessage x = withKeywords();
        x.come(0, 5);
        return x;
    }

    private static Object setKeyword(Shortmessage x, int service, int sign) {
        x.setKeyword(service, sign);
        return "set";
    }

    // ---- Terms: keywords

    @Sentence(at = "Terms", says = "An incoming text comes from a person, 0 to 8, and is one sign.")
    static void terms_keywords_persons0To8(Check check) {
        Shortmessage x = withKeywords();
        check.due("0", 2, () -> x.come(0, 5));
        check.due("8", 2, () -> x.come(8, 5));
        check.due("-1", Check.ARGUMENT, () -> x.come(-1, 5));
        check.due("9", Check.ARGUMENT, () -> x.come(9, 5));
    }

    @Sentence(at = "Terms", says = "If the sign is the keyword of a service, it goes to that, and the session of the "
            + "person is with that service from now on.")
    static void terms_keywords_toItsServiceAndASessionWithIt(Check check) {
        Shortmessage x = withKeywords();
        check.due("by keyword", 2, () -> x.come(0, 5));
        check.due("by session", 2, () -> x.come(0, 1));
        check.due("another keyword", 3, () -> x.come(0, 6));
        check.due("another session", 3, () -> x.come(0, 1));
        check.due("nobody else's", 0, () -> x.come(1, 1));
        check.due("nor does that end it", 3, () -> x.come(0, 1));
    }

    @Sentence(at = "Terms", says = "If the sign is the keyword of a service, it goes to that")
    static void terms_keywords_alsoAfterLongAndForAllPersons(Check check) {
        Shortmessage x = withSession();
        x.pass(200);
        for (int person = 0; person <= 8; person++) {
            int asked = person;
            check.due("person " + person, 2, () -> x.come(asked, 5));
        }
        for (int person = 0; person <= 8; person++) {
            int asked = person;
            check.due("session of " + person, 2, () -> x.come(asked, 990));
        }
    }

    @Sentence(at = "Terms", says = "the latest text by which it began or that went by it came less than 20 ticks "
            + "ago, it goes to the service of the session")
    static void terms_sessions_19TicksButNot20AfterTheBegin(Check check) {
        Shortmessage at0 = withSession();
        check.due("in the same tick", 2, () -> at0.come(0, 1));
        Shortmessage at19 = withSession();
        at19.pass(19);
        check.due("19 ticks ago", 2, () -> at19.come(0, 1));
        Shortmessage at20 = withSession();
        at20.pass(20);
        check.due("20 ticks ago", 0, () -> at20.come(0, 1));
        Shortmessage at21 = withSession();
        at21.pass(21);
        check.due("21 ticks ago", 0, () -> at21.come(0, 1));
    }

    @Sentence(at = "Terms", says = "which goes on by that.")
    static void terms_sessions_goOnByTextsThatWentByThem(Check check) {
        Shortmessage x = withSession();
        for (int i = 0; i < 5; i++) {
            x.pass(19);
            check.due("each 19 ticks after the one before", 2, () -> x.come(0, 1));
        }
        x.pass(20);
        check.due("20 ticks after it", 0, () -> x.come(0, 1));
    }

    @Sentence(at = "Terms", says = "the latest text by which it began")
    static void terms_sessions_beginAgainByTheSameKeyword(Check check) {
        Shortmessage x = withKeywords();
        x.pass(1);
        x.come(0, 5);
        x.pass(19);
        x.come(0, 5);
        x.pass(19);
        check.due("19 ticks after the second begin", 2, () -> x.come(0, 1));
        x.pass(19);
        x.come(0, 6);
        x.pass(19);
        check.due("19 ticks after the begin of another", 3, () -> x.come(0, 1));
        x.pass(20);
        x.come(0, 6);
        x.pass(19);
        check.due("19 ticks after a begin when it was over", 3, () -> x.come(0, 1));
    }

    @Sentence(at = "Terms", says = "or that went by it came less than 20 ticks ago")
    static void terms_sessions_onlyByTextsOfThePerson(Check check) {
        Shortmessage x = withSession();
        x.come(1, 5);
        x.pass(10);
        x.come(1, 1);
        x.pass(10);
        check.due("20 ticks ago", 0, () -> x.come(0, 1));
        check.due("10 ticks ago", 2, () -> x.come(1, 1));
    }

    @Sentence(at = "Terms", says = "Otherwise it goes to the default service, 0, and the person has no session.")
    static void terms_sessions_otherwiseServiceZeroAndNoSession(Check check) {
        check.due("never one", 0, () -> new Shortmessage().come(0, 1));
        Shortmessage x = withSession();
        x.pass(20);
        check.due("over", 0, () -> x.come(0, 1));
        check.due("that does not begin it again", 0, () -> x.come(0, 1));
        x.pass(1);
        check.due("nor later", 0, () -> x.come(0, 1));
        check.due("a keyword does", 2, () -> x.come(0, 5));
        check.due("then there is one", 2, () -> x.come(0, 1));
    }

    @Sentence(at = "Terms", says = "Services are 0 to 4.")
    static void terms_services_are0To4(Check check) {
        Shortmessage x = new Shortmessage();
        for (int service = 1; service <= 4; service++) {
            x.setKeyword(service, 100 + service);
        }
        for (int service = 1; service <= 4; service++) {
            int asked = service;
            check.due("service " + service, asked, () -> x.come(0, 100 + asked));
        }
        check.due("the default one", 0, () -> x.come(1, 100));
        check.due("none behind 4", Check.ARGUMENT, () -> setKeyword(x, 5, 1));
    }

    // ---- Promise 25: setKeyword

    @Sentence(at = "Promise 25", says = "Sets the keyword of a service, in place of an earlier one")
    static void promise25_setKeyword_inPlaceOfAnEarlierOne(Check check) {
        Shortmessage x = withKeywords();
        x.setKeyword(2, 7);
        check.due("the earlier one", 0, () -> x.come(0, 5));
        check.due("the new one", 2, () -> x.come(0, 7));
        check.due("that of another stays", 3, () -> x.come(0, 6));
        x.setKeyword(2, 7);
        check.due("the same once more", 2, () -> x.come(1, 7));
    }

    @Sentence(at = "Promise 25", says = "if another service has this keyword, that one has none then.")
    static void promise25_setKeyword_takenFromAnother(Check check) {
        Shortmessage higher = withKeywords();
        higher.setKeyword(3, 5);
        check.due("5 goes to 3", 3, () -> higher.come(0, 5));
        check.due("6 is nobody's", 0, () -> higher.come(1, 6));
        higher.setKeyword(3, -1);
        check.due("5 does not come back to 2", 0, () -> higher.come(1, 5));
        Shortmessage lower = withKeywords();
        lower.setKeyword(2, 6);
        check.due("6 goes to 2", 2, () -> lower.come(0, 6));
        check.due("5 is nobody's", 0, () -> lower.come(1, 5));
        lower.setKeyword(2, -1);
        check.due("6 does not come back to 3", 0, () -> lower.come(1, 6));
    }

    @Sentence(at = "Promise 25", says = "`service`: 1 to 4")
    static void promise25_setKeyword_service1To4(Check check) {
        Shortmessage x = new Shortmessage();
        check.due("1", "set", () -> setKeyword(x, 1, 11));
        check.due("4", "set", () -> setKeyword(x, 4, 14));
        check.due("11 goes to 1", 1, () -> x.come(0, 11));
        check.due("14 goes to 4", 4, () -> x.come(0, 14));
    }

    @Sentence(at = "Promise 25", says = "`sign`: 0 to 999, or -1 for none")
    static void promise25_setKeyword_signs0And999(Check check) {
        Shortmessage x = new Shortmessage();
        check.due("0", "set", () -> setKeyword(x, 1, 0));
        check.due("999", "set", () -> setKeyword(x, 2, 999));
        check.due("0 goes to 1", 1, () -> x.come(0, 0));
        check.due("999 goes to 2", 2, () -> x.come(0, 999));
    }

    @Sentence(at = "Promise 25", says = "or -1 for none")
    static void promise25_setKeyword_minus1IsNone(Check check) {
        Shortmessage x = withKeywords();
        check.due("none", "set", () -> setKeyword(x, 2, -1));
        check.due("5 is nobody's", 0, () -> x.come(0, 5));
        check.due("6 stays that of 3", 3, () -> x.come(0, 6));
        check.due("none again", "set", () -> setKeyword(x, 2, -1));
        check.due("none for another", "set", () -> setKeyword(x, 4, -1));
        check.due("6 stays that of 3", 3, () -> x.come(1, 6));
        Shortmessage y = withSession();
        y.setKeyword(2, -1);
        check.due("the session stays", 2, () -> y.come(0, 5));
    }

    @Sentence(at = "Promise 25", says = "Throws `IllegalArgumentException` if service or sign is out of range")
    static void promise25_setKeyword_serviceOutOfRange(Check check) {
        for (int service : Made.outside(1, 4)) {
            check.changesNothing("setKeyword(" + service + ", 5)", Check.ARGUMENT,
                    IncomingSentencesTest::withKeywords, x -> setKeyword(x, service, 5));
            check.changesNothing("setKeyword(" + service + ", 8)", Check.ARGUMENT,
                    IncomingSentencesTest::withKeywords, x -> setKeyword(x, service, 8));
        }
    }

    @Sentence(at = "Promise 25", says = "Throws `IllegalArgumentException` if service or sign is out of range")
    static void promise25_setKeyword_signOutOfRange(Check check) {
        for (int sign : Made.outside(-1, 999)) {
            check.changesNothing("setKeyword(2, " + sign + ")", Check.ARGUMENT,
                    IncomingSentencesTest::withKeywords, x -> setKeyword(x, 2, sign));
        }
    }

    // ---- Promise 26: come

    @Sentence(at = "Promise 26", says = "Lets a text come in.")
    static void promise26_come_leavesAllElse(Check check) {
        Shortmessage x = Made.messagesFor(0, 0);
        x.write(7, 2);
        x.come(0, 7);
        check.due("no time passes", 0, x::time);
        check.due("the text that is written stays", 2, x::septets);
        check.due("nothing is queued", 2, () -> x.queued(0));
    }

    @Sentence(at = "Promise 26", says = "`person`: 0 to 8")
    static void promise26_come_person0To8(Check check) {
        Shortmessage x = withKeywords();
        check.due("0", 2, () -> x.come(0, 5));
        check.due("8", 3, () -> x.come(8, 6));
        check.due("0 keeps its session", 2, () -> x.come(0, 1));
        check.due("8 keeps its session", 3, () -> x.come(8, 1));
        check.due("7 has none", 0, () -> x.come(7, 1));
    }

    @Sentence(at = "Promise 26", says = "`sign`: 0 to 999")
    static void promise26_come_sign0To999(Check check) {
        check.due("0", 0, () -> new Shortmessage().come(0, 0));
        check.due("999", 0, () -> new Shortmessage().come(0, 999));
    }

    @Sentence(at = "Promise 26", says = "Returns the service to which it goes.")
    static void promise26_come_returns0To4(Check check) {
        Shortmessage x = new Shortmessage();
        check.due("the lowest", 0, () -> x.come(0, 0));
        x.setKeyword(4, 0);
        check.due("the highest", 4, () -> x.come(0, 0));
    }

    @Sentence(at = "Promise 26", says = "Throws `IllegalArgumentException` if person or sign is out of range")
    static void promise26_come_personOutOfRange(Check check) {
        for (int person : Made.outside(0, 8)) {
            check.changesNothing("come(" + person + ", 6)", Check.ARGUMENT,
                    IncomingSentencesTest::withSession, x -> x.come(person, 6));
        }
    }

    @Sentence(at = "Promise 26", says = "Throws `IllegalArgumentException` if person or sign is out of range")
    static void promise26_come_signOutOfRange(Check check) {
        for (int sign : Made.outside(0, 999)) {
            check.changesNothing("come(0, " + sign + ")", Check.ARGUMENT,
                    IncomingSentencesTest::withSession, x -> x.come(0, sign));
            Shortmessage x = withSession();
            x.pass(10);
            check.due("come(0, " + sign + ")", Check.ARGUMENT, () -> x.come(0, sign));
            x.pass(10);
            check.due("the session did not go on by that", 0, () -> x.come(0, 1));
        }
    }
}
