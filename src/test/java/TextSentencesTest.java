import java.math.BigInteger;
import java.util.ArrayList;
import java.util.List;

/** The text that is written: promises 2 to 9, and what the terms say of signs, parts and octets. */
public final class TextSentencesTest {
    private TextSentencesTest() {
    }

    public static void main(String[] args) {
        SentenceRunner.run(TextSentencesTest.class);
    }

    // ---- Terms: signs

    @Sentence(at = "Terms", says = "Signs are 0 to 999.")
    static void terms_signs_are0To999(Check check) {
        Shortmessage x = new Shortmessage();
        check.due("the lowest", 1, () -> x.write(0, 1));
        check.due("the highest", 2, () -> x.write(999, 1));
        check.due("below", Check.ARGUMENT, () -> x.write(-1, 1));
        check.due("above", Check.ARGUMENT, () -> x.write(1000, 1));
    }

    @Sentence(at = "Terms", says = "A sign below 128 is plain")
    static void terms_signs_0And127ArePlain(Check check) {
        check.due("0", 1, () -> Made.text(0, 1).septets());
        check.due("127", 1, () -> Made.text(127, 1).septets());
        check.due("its own number", "127", () -> Made.octets(Made.text(127, 1), 0));
    }

    @Sentence(at = "Terms", says = "one of 128 to 159 is escaped")
    static void terms_signs_128And159AreEscaped(Check check) {
        check.due("128", 2, () -> Made.text(128, 1).septets());
        check.due("159", 2, () -> Made.text(159, 1).septets());
        check.due("159 is not wide", false, () -> Made.text(159, 1).isWide());
    }

    @Sentence(at = "Terms", says = "any other one is wide")
    static void terms_signs_160And999AreWide(Check check) {
        check.due("160", true, () -> Made.text(160, 1).isWide());
        check.due("999", true, () -> Made.text(999, 1).isWide());
        check.due("two octets", "0 160", () -> Made.octets(Made.text(160, 1), 0));
    }

    @Sentence(at = "Terms", says = "A text without wide signs is a small text")
    static void terms_smallText_emptyOrFullWithoutWideSigns(Check check) {
        check.due("empty", false, () -> new Shortmessage().isWide());
        check.due("empty", 0, () -> new Shortmessage().septets());
        check.due("full of 127", 400, () -> Made.text(127, 400).septets());
        check.due("full of 159", 800, () -> Made.text(159, 400).septets());
    }

    @Sentence(at = "Terms", says = "a plain sign takes one septet (a number of seven bits, that of the sign)")
    static void terms_plainSign_takesTheSeptetOfItsNumber(Check check) {
        check.due("0", "0", () -> Made.octets(Made.text(0, 1), 0));
        check.due("27 is like any other", "27", () -> Made.octets(Made.text(27, 1), 0));
        check.due("127", "127", () -> Made.octets(Made.text(127, 1), 0));
    }

    @Sentence(at = "Terms", says = "an escaped one two, the septet 27 and that of the sign less 128")
    static void terms_escapedSign_takes27AndItsNumberLess128(Check check) {
        check.due("128: 27, 0", "27 0", () -> Made.octets(Made.text(128, 1), 0));
        check.due("129: 27, 1", "155 0", () -> Made.octets(Made.text(129, 1), 0));
        check.due("159: 27, 31", "155 15", () -> Made.octets(Made.text(159, 1), 0));
    }

    @Sentence(at = "Terms", says = "A text with a wide sign is a wide text.")
    static void terms_wideText_oneWideSignIsEnough(Check check) {
        Shortmessage first = Made.text(160, 1);
        first.write(1, 199);
        first.write(1, 200);
        check.due("the first of 400", true, first::isWide);
        check.due("each sign takes two octets", 134, () -> first.octets(4));
        Shortmessage last = Made.text(1, 399);
        check.due("none of 399", false, last::isWide);
        last.write(160, 1);
        check.due("the last of 400", true, last::isWide);
        check.due("cut as a wide one", 6, last::parts);
    }

    // ---- Terms: parts

    @Sentence(at = "Terms", says = "A small text of at most 160 septets is one part")
    static void terms_smallParts_160SeptetsAreOnePart(Check check) {
        check.due("153 plain", 1, () -> Made.text(1, 153).parts());
        check.due("154 plain", 1, () -> Made.text(1, 154).parts());
        check.due("159 plain", 1, () -> Made.text(1, 159).parts());
        check.due("160 plain", 1, () -> Made.text(1, 160).parts());
        check.due("all of them in it", 160, () -> Made.text(1, 160).signs(0));
        check.due("161 plain", 2, () -> Made.text(1, 161).parts());
        check.due("80 escaped", 1, () -> Made.text(130, 80).parts());
        check.due("81 escaped", 2, () -> Made.text(130, 81).parts());
        Shortmessage x = Made.text(1, 158);
        x.write(130, 1);
        check.due("158 plain, one escaped", 1, x::parts);
        Shortmessage y = Made.text(1, 159);
        y.write(130, 1);
        check.due("159 plain, one escaped", 2, y::parts);
    }

    @Sentence(at = "Terms", says = "otherwise it is cut into parts, each of which has as many signs as fit into "
            + "153 septets")
    static void terms_smallParts_153SeptetsFit(Check check) {
        Shortmessage x = Made.text(1, 161);
        check.due("161: the first", 153, () -> x.signs(0));
        check.due("161: the second", 8, () -> x.signs(1));
        check.due("306", 2, () -> Made.text(1, 306).parts());
        check.due("306: the second", 153, () -> Made.text(1, 306).signs(1));
        check.due("307", 3, () -> Made.text(1, 307).parts());
        check.due("307: the third", 1, () -> Made.text(1, 307).signs(2));
        check.due("400: the third", 94, () -> Made.text(1, 400).signs(2));
        Shortmessage y = Made.text(130, 76);
        y.write(1, 10);
        check.due("76 escaped and one plain are 153", 77, () -> y.signs(0));
        check.due("the rest", 9, () -> y.signs(1));
    }

    @Sentence(at = "Terms", says = "from the first one on (an escaped sign is never cut)")
    static void terms_smallParts_anEscapedSignIsNeverCut(Check check) {
        Shortmessage over = Made.text(1, 152);
        over.write(131, 5);
        check.due("152 plain: the escaped one goes on", 152, () -> over.signs(0));
        check.due("152 septets", 133, () -> over.octets(0));
        check.due("27, 3", 155, () -> over.octet(1, 0));
        Shortmessage just = Made.text(1, 151);
        just.write(131, 5);
        check.due("151 plain: the escaped one fits", 152, () -> just.signs(0));
        check.due("153 septets", 134, () -> just.octets(0));
        Shortmessage escaped = Made.text(131, 400);
        check.due("76 in each of five", "76 76", () -> escaped.signs(0) + " " + escaped.signs(4));
        check.due("the rest in the sixth", 20, () -> escaped.signs(5));
    }

    @Sentence(at = "Terms", says = "A wide text of at most 70 signs is one part")
    static void terms_wideParts_70SignsAreOnePart(Check check) {
        check.due("67", 1, () -> Made.text(160, 67).parts());
        check.due("68", 1, () -> Made.text(160, 68).parts());
        check.due("69", 1, () -> Made.text(160, 69).parts());
        check.due("70", 1, () -> Made.text(160, 70).parts());
        check.due("all of them in it", 70, () -> Made.text(160, 70).signs(0));
        check.due("71", 2, () -> Made.text(160, 71).parts());
        Shortmessage x = Made.text(130, 69);
        x.write(160, 1);
        check.due("an escaped sign counts once", 1, x::parts);
        x.write(1, 1);
        check.due("a plain one too", 2, x::parts);
    }

    @Sentence(at = "Terms", says = "otherwise it is cut into parts of 67 signs each, and the rest.")
    static void terms_wideParts_67SignsEachAndTheRest(Check check) {
        Shortmessage x = Made.text(160, 71);
        check.due("71: the first", 67, () -> x.signs(0));
        check.due("71: the rest", 4, () -> x.signs(1));
        check.due("134", 2, () -> Made.text(160, 134).parts());
        check.due("134: the second is full", 67, () -> Made.text(160, 134).signs(1));
        check.due("135", 3, () -> Made.text(160, 135).parts());
        check.due("135: the rest", 1, () -> Made.text(160, 135).signs(2));
        check.due("400", 6, () -> Made.text(160, 400).parts());
        check.due("400: the rest", 65, () -> Made.text(160, 400).signs(5));
    }

    @Sentence(at = "Terms", says = "A text without signs has no parts and cannot be submitted.")
    static void terms_noSigns_noPartsAndNoSubmit(Check check) {
        check.due("no parts", 0, () -> new Shortmessage().parts());
        check.due("no part 0", Check.INDEX, () -> new Shortmessage().signs(0));
        check.due("no submit", Check.STATE, () -> new Shortmessage().submit(0, 1));
        check.due("one sign 0 is enough", 0, () -> Made.text(0, 1).submit(0, 1));
        Shortmessage erased = Made.text(1, 5);
        erased.erase();
        check.due("erased: no parts", 0, erased::parts);
        check.due("erased: no submit", Check.STATE, () -> erased.submit(0, 1));
    }

    // ---- Terms: octets

    @Sentence(at = "Terms", says = "written one behind the other as bits, the lowest bit of each first, and cut into "
            + "eights, the first bit of each being the lowest")
    static void terms_smallOctets_lowestBitFirst(Check check) {
        check.due("64, 1", "192 0", () -> Made.octets(Made.signs(64, 1), 0));
        check.due("0, 1", "128 0", () -> Made.octets(Made.signs(0, 1), 0));
        check.due("hello", "232 50 155 253 6", () -> Made.octets(Made.signs(104, 101, 108, 108, 111), 0));
        check.due("eight septets, seven octets", "1 193 128 80 48 28 16",
                () -> Made.octets(Made.signs(1, 2, 3, 4, 5, 6, 7, 8), 0));
        check.due("nine septets", "255 255 255 255 255 255 255 127", () -> Made.octets(Made.text(127, 9), 0));
        check.due("1; 27, 31; 10", "129 205 71 1", () -> Made.octets(Made.signs(1, 159, 10), 0));
        check.due("the ninth septet", "255 255 255 255 255 255 255 1",
                () -> Made.octets(Made.signs(127, 127, 127, 127, 127, 127, 127, 127, 1), 0));
    }

    @Sentence(at = "Terms", says = "The octets of a part of a small text are its septets, written one behind the "
            + "other as bits")
    static void terms_smallOctets_everyOctetOfLongParts(Check check) {
        Shortmessage plain = new Shortmessage();
        List<Integer> septets = new ArrayList<>();
        for (int i = 0; i < 160; i++) {
            septets.add(i * 37 % 128);
            plain.write(i * 37 % 128, 1);
        }
        check.due("one full part", packed(septets), () -> Made.octets(plain, 0));
        Shortmessage mixed = new Shortmessage();
        List<Integer> first = new ArrayList<>(List.of(5));
        List<Integer> second = new ArrayList<>();
        mixed.write(5, 1);
        for (int i = 0; i < 100; i++) {
            mixed.write(128 + i * 13 % 32, 1);
            (i < 76 ? first : second).addAll(List.of(27, i * 13 % 32));
        }
        check.due("153 septets", packed(first), () -> Made.octets(mixed, 0));
        check.due("the rest", packed(second), () -> Made.octets(mixed, 1));
    }

    /** All septets as one number, the first one lowest, told eight bits at a time. */
    private static String packed(List<Integer> septets) {
        BigInteger bits = BigInteger.ZERO;
        for (int i = 0; i < septets.size(); i++) {
            bits = bits.or(BigInteger.valueOf(septets.get(i)).shiftLeft(7 * i));
        }
        StringBuilder all = new StringBuilder();
        for (int bit = 0; bit < 7 * septets.size(); bit += 8) {
            all.append(bit == 0 ? "" : " ").append(bits.shiftRight(bit).intValue() & 255);
        }
        return all.toString();
    }

    @Sentence(at = "Terms", says = "what is lacking at the end is 0.")
    static void terms_smallOctets_whatIsLackingAtTheEndIs0(Check check) {
        check.due("one septet: one bit lacks", "127", () -> Made.octets(Made.text(127, 1), 0));
        check.due("two septets: two bits lack", "255 63", () -> Made.octets(Made.text(127, 2), 0));
        check.due("seven septets: seven bits lack", 1, () -> Made.text(127, 7).octet(0, 6));
        check.due("eight septets: none lacks", 255, () -> Made.text(127, 8).octet(0, 6));
        check.due("160 septets: none lacks", 255, () -> Made.text(127, 160).octet(0, 139));
        Shortmessage x = Made.text(127, 161);
        check.due("153 septets: no bit comes from the next part", 127, () -> x.octet(0, 133));
        check.due("the next part begins anew", 255, () -> x.octet(1, 0));
        check.due("eight septets in it", 255, () -> x.octet(1, 6));
    }

    @Sentence(at = "Terms", says = "Those of a wide text are two for each sign: sign / 256, rounded down, and the "
            + "remainder.")
    static void terms_wideOctets_quotientAndRemainderOf256(Check check) {
        check.due("around the multiples of 256", "0 0 0 255 1 0 1 255 2 0 2 255 3 0 3 231",
                () -> Made.octets(Made.signs(0, 255, 256, 511, 512, 767, 768, 999), 0));
        check.due("plain and escaped ones too", "0 127 0 128 0 159 0 160",
                () -> Made.octets(Made.signs(127, 128, 159, 160), 0));
    }

    // ---- Promise 2: write

    @Sentence(at = "Promise 2", says = "Writes a sign several times at the end of the text.")
    static void promise2_write_atTheEnd(Check check) {
        Shortmessage x = Made.signs(500);
        x.write(501, 2);
        x.write(502, 1);
        check.due("in their order", "1 244 1 245 1 245 1 246", () -> Made.octets(x, 0));
    }

    @Sentence(at = "Promise 2", says = "`sign`: 0 to 999")
    static void promise2_write_sign0To999(Check check) {
        Shortmessage x = new Shortmessage();
        check.due("0", 1, () -> x.write(0, 1));
        check.due("999", 2, () -> x.write(999, 1));
        check.due("both are kept", "0 0 3 231", () -> Made.octets(x, 0));
    }

    @Sentence(at = "Promise 2", says = "`times`: 1 to 200")
    static void promise2_write_times1To200(Check check) {
        Shortmessage x = new Shortmessage();
        check.due("1", 1, () -> x.write(5, 1));
        check.due("200", 201, () -> x.write(5, 200));
    }

    @Sentence(at = "Promise 2", says = "Returns number of signs of the text then.")
    static void promise2_write_returnsSignsNotSeptets(Check check) {
        Shortmessage x = new Shortmessage();
        check.due("200 escaped", 200, () -> x.write(130, 200));
        check.due("and one wide", 201, () -> x.write(500, 1));
        check.due("to the last one", 400, () -> x.write(1, 199));
    }

    @Sentence(at = "Promise 2", says = "Throws `IllegalArgumentException` if sign or times is out of range")
    static void promise2_write_signOutOfRange(Check check) {
        for (int sign : Made.outside(0, 999)) {
            check.changesNothing("write(" + sign + ", 1)", Check.ARGUMENT,
                    () -> Made.signs(1, 130), x -> x.write(sign, 1));
        }
    }

    @Sentence(at = "Promise 2", says = "Throws `IllegalArgumentException` if sign or times is out of range")
    static void promise2_write_timesOutOfRange(Check check) {
        for (int times : Made.outside(1, 200)) {
            check.changesNothing("write(1, " + times + ")", Check.ARGUMENT,
                    () -> Made.signs(1, 130), x -> x.write(1, times));
        }
    }

    @Sentence(at = "Promise 2", says = "Throws `IllegalStateException` if the text would have more than 400 signs")
    static void promise2_write_400SignsAndNoMore(Check check) {
        check.due("200 and 200", 400, () -> Made.text(1, 200).write(1, 200));
        check.due("399 and one", 400, () -> Made.text(1, 399).write(1, 1));
        check.changesNothing("201 and 200", Check.STATE, () -> Made.text(1, 201), x -> x.write(999, 200));
        check.changesNothing("399 and two", Check.STATE, () -> Made.text(1, 399), x -> x.write(999, 2));
        check.changesNothing("400 and one", Check.STATE, () -> Made.text(1, 400), x -> x.write(999, 1));
        check.changesNothing("400 wide and one", Check.STATE, () -> Made.text(999, 400), x -> x.write(1, 1));
        Shortmessage x = Made.text(1, 399);
        Check.answer(() -> x.write(1, 2));
        check.due("refused, then one", 400, () -> x.write(1, 1));
    }

    // ---- Promise 3: erase

    @Sentence(at = "Promise 3", says = "Takes the text away.")
    static void promise3_erase_leavesAnEmptyText(Check check) {
        Shortmessage x = Made.text(999, 400);
        x.erase();
        check.due("parts", 0, x::parts);
        check.due("no part 0", Check.INDEX, () -> x.octets(0));
        check.due("isWide", false, x::isWide);
        check.due("septets", 0, x::septets);
        check.due("room for all again", 200, () -> x.write(1, 200));
        check.due("room for all again", 400, () -> x.write(1, 200));
        check.due("nothing of the old one", "1", () -> Made.octets(x, 0).substring(0, 1));
    }

    @Sentence(at = "Promise 3", says = "Returns number of signs that it had.")
    static void promise3_erase_ofEmptyAndFullTexts(Check check) {
        check.due("empty", 0, () -> new Shortmessage().erase());
        check.due("one", 1, () -> Made.text(130, 1).erase());
        Shortmessage x = Made.text(130, 400);
        check.due("full", 400, x::erase);
        check.due("twice", 0, x::erase);
    }

    // ---- Promise 4: isWide

    @Sentence(at = "Promise 4", says = "Returns whether the text is wide.")
    static void promise4_isWide_isOfTheTextOfNow(Check check) {
        Shortmessage erased = Made.text(500, 1);
        erased.erase();
        check.due("erased", false, erased::isWide);
        Shortmessage submitted = Made.text(500, 1);
        submitted.submit(0, 1);
        check.due("submitted", false, submitted::isWide);
        submitted.write(160, 1);
        check.due("wide again", true, submitted::isWide);
    }

    @Sentence(at = "Promise 4", says = "Returns true if it has a wide sign.")
    static void promise4_isWide_trueIfItHasAWideSign(Check check) {
        check.due("empty", false, () -> new Shortmessage().isWide());
        check.due("159", false, () -> Made.text(159, 1).isWide());
        check.due("160", true, () -> Made.text(160, 1).isWide());
        check.due("a wide sign, then a plain one", true, () -> Made.signs(160, 1).isWide());
    }

    // ---- Promise 5: septets

    @Sentence(at = "Promise 5", says = "Returns the number of septets that the text takes.")
    static void promise5_septets_ofPlainAndEscapedSigns(Check check) {
        check.due("127, 128, 159", 5, () -> Made.signs(127, 128, 159).septets());
        check.due("cutting adds none", 161, () -> Made.text(1, 161).septets());
        Shortmessage x = Made.text(1, 152);
        x.write(130, 5);
        check.due("nor does what a part leaves free", 162, x::septets);
    }

    @Sentence(at = "Promise 5", says = "Returns the number.")
    static void promise5_septets_ofEmptyAndFullTexts(Check check) {
        check.due("empty", 0, () -> new Shortmessage().septets());
        check.due("full of plain", 400, () -> Made.text(0, 400).septets());
        check.due("full of escaped", 800, () -> Made.text(159, 400).septets());
    }

    @Sentence(at = "Promise 5", says = "Throws `IllegalStateException` if it is wide")
    static void promise5_septets_ofAWideText(Check check) {
        check.changesNothing("septets of 160", Check.STATE, () -> Made.text(160, 1), Shortmessage::septets);
        check.changesNothing("septets of 999", Check.STATE, () -> Made.text(999, 400), Shortmessage::septets);
        check.due("159 is not wide", 2, () -> Made.text(159, 1).septets());
        Shortmessage x = Made.signs(1, 160);
        x.erase();
        check.due("erased", 0, x::septets);
    }

    // ---- Promise 6: parts

    @Sentence(at = "Promise 6", says = "Returns the number of parts into which the text would be cut.")
    static void promise6_parts_growWithTheText(Check check) {
        Shortmessage x = Made.text(1, 160);
        check.due("160", 1, x::parts);
        x.write(1, 1);
        check.due("161", 2, x::parts);
        x.write(160, 1);
        check.due("wide by the last sign: 162", 3, x::parts);
        check.due("the most small ones", 6, () -> Made.text(159, 400).parts());
        check.due("the most wide ones", 6, () -> Made.text(999, 400).parts());
    }

    @Sentence(at = "Promise 6", says = "Returns the number, 0 without signs.")
    static void promise6_parts_0WithoutSigns(Check check) {
        check.due("new", 0, () -> new Shortmessage().parts());
        check.due("one sign 0", 1, () -> Made.text(0, 1).parts());
        Shortmessage erased = Made.text(1, 400);
        erased.erase();
        check.due("erased", 0, erased::parts);
        Shortmessage submitted = Made.text(1, 400);
        submitted.submit(0, 1);
        check.due("submitted", 0, submitted::parts);
    }

    // ---- Promise 7: signs

    @Sentence(at = "Promise 7", says = "Returns the number of signs of a part.")
    static void promise7_signs_ofSmallAndWideParts(Check check) {
        check.due("escaped ones count once", 80, () -> Made.text(130, 80).signs(0));
        check.due("the last small one", 20, () -> Made.text(130, 400).signs(5));
        check.due("the last wide one", 65, () -> Made.text(160, 400).signs(5));
    }

    @Sentence(at = "Promise 7", says = "`part`: 0 for the first one")
    static void promise7_signs_part0IsTheFirst(Check check) {
        check.due("first", 153, () -> Made.text(1, 161).signs(0));
        check.due("second", 8, () -> Made.text(1, 161).signs(1));
    }

    @Sentence(at = "Promise 7", says = "Returns the number.")
    static void promise7_signs_fromOneToAll(Check check) {
        check.due("one", 1, () -> Made.text(0, 1).signs(0));
        check.due("160", 160, () -> Made.text(0, 160).signs(0));
        check.due("one behind the cut", 1, () -> Made.text(0, 307).signs(2));
    }

    @Sentence(at = "Promise 7", says = "Throws `IndexOutOfBoundsException` if there is no such part")
    static void promise7_signs_noSuchPart(Check check) {
        for (int part : Made.outside(0, 1)) {
            check.changesNothing("signs(" + part + ") of two parts", Check.INDEX,
                    () -> Made.text(1, 161), x -> x.signs(part));
        }
        check.changesNothing("signs(1) of one part", Check.INDEX, () -> Made.text(1, 160), x -> x.signs(1));
        check.changesNothing("signs(0) without signs", Check.INDEX, Shortmessage::new, x -> x.signs(0));
        check.changesNothing("signs(6) of six parts", Check.INDEX, () -> Made.text(999, 400), x -> x.signs(6));
    }

    // ---- Promise 8: octets

    @Sentence(at = "Promise 8", says = "Returns the number of octets of a part.")
    static void promise8_octets_areRoundedUp(Check check) {
        check.due("one septet", 1, () -> Made.text(1, 1).octets(0));
        check.due("seven septets, 49 bits", 7, () -> Made.text(1, 7).octets(0));
        check.due("eight septets, 56 bits", 7, () -> Made.text(1, 8).octets(0));
        check.due("nine septets, 63 bits", 8, () -> Made.text(1, 9).octets(0));
    }

    @Sentence(at = "Promise 8", says = "`part`: 0 for the first one")
    static void promise8_octets_part0IsTheFirst(Check check) {
        check.due("small, first", 134, () -> Made.text(1, 161).octets(0));
        check.due("small, second", 7, () -> Made.text(1, 161).octets(1));
        check.due("wide, first", 134, () -> Made.text(160, 71).octets(0));
        check.due("wide, second", 8, () -> Made.text(160, 71).octets(1));
    }

    @Sentence(at = "Promise 8", says = "Returns the number.")
    static void promise8_octets_ofFullParts(Check check) {
        check.due("160 septets", 140, () -> Made.text(1, 160).octets(0));
        check.due("70 wide signs", 140, () -> Made.text(160, 70).octets(0));
        check.due("152 septets", 133, () -> Made.text(130, 400).octets(4));
        check.due("40 septets", 35, () -> Made.text(130, 400).octets(5));
        check.due("65 wide signs", 130, () -> Made.text(160, 400).octets(5));
    }

    @Sentence(at = "Promise 8", says = "Throws `IndexOutOfBoundsException` if there is no such part")
    static void promise8_octets_noSuchPart(Check check) {
        for (int part : Made.outside(0, 1)) {
            check.changesNothing("octets(" + part + ") of two parts", Check.INDEX,
                    () -> Made.text(1, 161), x -> x.octets(part));
        }
        check.changesNothing("octets(1) of one part", Check.INDEX, () -> Made.text(160, 70), x -> x.octets(1));
        check.changesNothing("octets(0) without signs", Check.INDEX, Shortmessage::new, x -> x.octets(0));
        check.changesNothing("octets(6) of six parts", Check.INDEX, () -> Made.text(130, 400), x -> x.octets(6));
    }

    // ---- Promise 9: octet

    @Sentence(at = "Promise 9", says = "Returns an octet of a part.")
    static void promise9_octet_ofTheLastParts(Check check) {
        check.due("small: 27, 31, 27, 31", 155, () -> Made.text(159, 400).octet(5, 0));
        check.due("small: its end", 62, () -> Made.text(159, 400).octet(5, 34));
        check.due("wide", 3, () -> Made.text(999, 400).octet(5, 128));
        check.due("wide: its end", 231, () -> Made.text(999, 400).octet(5, 129));
    }

    @Sentence(at = "Promise 9", says = "`part`: 0 for the first one")
    static void promise9_octet_part0IsTheFirst(Check check) {
        Shortmessage x = Made.text(500, 67);
        x.write(256, 4);
        check.due("the first", 244, () -> x.octet(0, 1));
        check.due("the end of the first", 244, () -> x.octet(0, 133));
        check.due("the second", 0, () -> x.octet(1, 1));
    }

    @Sentence(at = "Promise 9", says = "`place`: 0 for the first octet")
    static void promise9_octet_place0IsTheFirst(Check check) {
        check.due("small, first", 232, () -> Made.signs(104, 101).octet(0, 0));
        check.due("small, second", 50, () -> Made.signs(104, 101).octet(0, 1));
        check.due("wide, first", 1, () -> Made.signs(256).octet(0, 0));
        check.due("wide, second", 0, () -> Made.signs(256).octet(0, 1));
    }

    @Sentence(at = "Promise 9", says = "Returns 0 to 255.")
    static void promise9_octet_0And255(Check check) {
        check.due("small 0", 0, () -> Made.text(0, 8).octet(0, 3));
        check.due("small 255", 255, () -> Made.text(127, 8).octet(0, 3));
        check.due("wide 0", 0, () -> Made.signs(512).octet(0, 1));
        check.due("wide 255", 255, () -> Made.signs(511).octet(0, 1));
    }

    @Sentence(at = "Promise 9", says = "Throws `IndexOutOfBoundsException` if there is no such part or place")
    static void promise9_octet_noSuchPart(Check check) {
        for (int part : Made.outside(0, 1)) {
            check.changesNothing("octet(" + part + ", 0) of two parts", Check.INDEX,
                    () -> Made.text(1, 161), x -> x.octet(part, 0));
        }
        check.changesNothing("octet(0, 0) without signs", Check.INDEX, Shortmessage::new, x -> x.octet(0, 0));
        check.changesNothing("octet(6, 0) of six parts", Check.INDEX,
                () -> Made.text(999, 400), x -> x.octet(6, 0));
    }

    @Sentence(at = "Promise 9", says = "Throws `IndexOutOfBoundsException` if there is no such part or place")
    static void promise9_octet_noSuchPlace(Check check) {
        for (int place : Made.outside(0, 133)) {
            check.changesNothing("octet(0, " + place + ") of a small text", Check.INDEX,
                    () -> Made.text(1, 161), x -> x.octet(0, place));
            check.changesNothing("octet(0, " + place + ") of a wide text", Check.INDEX,
                    () -> Made.text(160, 71), x -> x.octet(0, place));
        }
        check.due("the last place", 1, () -> Made.text(1, 161).octet(0, 133));
        check.changesNothing("octet(1, 7) of eight septets", Check.INDEX,
                () -> Made.text(1, 161), x -> x.octet(1, 7));
        check.changesNothing("octet(1, 8) of four wide signs", Check.INDEX,
                () -> Made.text(160, 71), x -> x.octet(1, 8));
    }
}
