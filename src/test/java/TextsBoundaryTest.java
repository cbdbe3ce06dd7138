/** The sentences of "Texts" and of promises 22 to 25 that name a boundary case, each with a test of its own. */
public final class TextsBoundaryTest {
    private static HandoverDesk padWith(String text) {
        HandoverDesk desk = new HandoverDesk();
        Due.write(desk, text);
        return desk;
    }

    private static void fault(String text, int due) {
        Due.due("fault of " + text, padWith(text).fault(), due);
    }

    private static void noFault(String... texts) {
        for (String text : texts) {
            fault(text, HandoverDesk.NONE);
        }
    }

    /** Each text is wrong at its last character, whatever follows it. */
    private static void wrongAtTheLast(String... texts) {
        for (String text : texts) {
            fault(text, text.length() - 1);
            fault(text + ";o", text.length() - 1);
            fault(text + "9", text.length() - 1);
            fault("e;" + text, text.length() + 1);
        }
    }

    // ---- terms: texts

    private static void atMostEightyCharacters() {
        HandoverDesk desk = padWith("e;".repeat(39) + "e");
        Due.due("79", desk.count(17), 79);
        Due.due("one more", desk.put(';'), 80);
        Due.due("no more", desk.put('e'), HandoverDesk.TOO_MANY);
        fault("e;".repeat(38) + "e;x0", HandoverDesk.NONE);
        fault("e;".repeat(39) + "e;", 80);
        fault("e;".repeat(39) + "ee", 79);
        fault("e;".repeat(39) + "x", 79);
        fault("e;".repeat(39) + "x;", 79);
    }

    private static void ordersAndSemicolons() {
        noFault("e", "e;e", "o;e;o");
        wrongAtTheLast(";", "e;;", "ee", "eo", "e,", "e;,", "e;=", "e!", "e~");
        fault("e;", 2);
    }

    private static void whatAnOrderBeginsWith() {
        for (char sign = 33; sign <= 126; sign++) {
            String text = Character.toString(sign);
            int due = sign == 'o' || sign == 'e' ? HandoverDesk.NONE : "xkclrm".indexOf(sign) >= 0 ? 1 : 0;
            fault(text, due);
            fault("e;" + text, due < 0 ? due : due + 2);
        }
    }

    private static void eachSignAt(String before, String after, String allowed) {
        for (char sign = 33; sign <= 126; sign++) {
            boolean good = allowed.indexOf(sign) >= 0;
            fault(before + sign + after, good ? HandoverDesk.NONE : before.length());
        }
    }

    private static void topicsAndWorkers() {
        for (String letter : new String[] {"x", "k", "c"}) {
            eachSignAt(letter, "", "0123456789");
            eachSignAt(letter, ";e", "0123456789");
            wrongAtTheLast(letter + "00", letter + "10");
        }
        eachSignAt("l", ".0+1", "012345");
        eachSignAt("l0.", "+1", "0123456789");
        eachSignAt("r0=", "", "012345");
        wrongAtTheLast("l00", "l0.00", "r0=00", "r0=12");
    }

    private static void theSignsBetween() {
        eachSignAt("l0", "0+1", ".");
        eachSignAt("l0.0", "1", "+");
        eachSignAt("r999", "0", "=");
        eachSignAt("m999", "0", "=");
        eachSignAt("l0.0+999", "e", ";");
        eachSignAt("r0=0", "e", ";");
        eachSignAt("m0=999", "e", ";");
        eachSignAt("o", "e", ";");
        eachSignAt("x0", "e", ";");
    }

    private static void numbersUpTo999() {
        String[] before = {"l0.0+", "m0=", "r", "m"};
        String[] after = {"", "", "=0", "=0"};
        for (int i = 0; i < before.length; i++) {
            for (String number : new String[] {"0", "1", "9", "10", "99", "100", "500", "990", "999"}) {
                noFault(before[i] + number + after[i]);
            }
            eachSignAt(before[i], after[i], "0123456789");
            noMoreThanDigits(before[i] + "1", after[i].isEmpty() ? ";" : "=");
            noMoreThanDigits(before[i] + "90", after[i].isEmpty() ? ";" : "=");
        }
    }

    /** After some digits of a number there may be one more, or what follows the number; no other sign. */
    private static void noMoreThanDigits(String before, String next) {
        for (char sign = 33; sign <= 126; sign++) {
            if ((sign < '0' || sign > '9') && next.charAt(0) != sign) {
                fault(before + sign + next + "0", before.length());
            }
        }
        noFault(before + "0" + (next.equals(";") ? ";e" : "=0"), before + "9" + (next.equals(";") ? ";e" : "=0"));
    }

    private static void withoutLeadingZeros() {
        for (String before : new String[] {"l0.0+", "m0=", "r", "m"}) {
            wrongAtTheLast(before + "00", before + "01", before + "09");
            fault(before + "001", before.length() + 1);
            fault(before + "0999", before.length() + 1);
        }
        wrongAtTheLast("l0.0+-", "m0=-", "r-", "m+");
    }

    private static void aDigitByWhichItWouldBeAbove999() {
        for (String before : new String[] {"l0.0+", "m0=", "r", "m"}) {
            wrongAtTheLast(before + "1000", before + "9990", before + "9999", before + "1234");
            fault(before + "10000", before.length() + 3);
        }
    }

    private static void theFirstCharacterThatCannotStandThere() {
        fault("x;x", 1);
        fault("!!", 0);
        fault("e;!;e", 2);
        fault("l6.!+!", 1);
        fault("o;x10;zz", 4);
        fault("m61=1000=", 7);
    }

    private static void tooEarly() {
        for (String text : new String[] {"l0.0+1", "r0=0", "m0=0", "x0", "k0", "c0"}) {
            for (int length = 1; length < text.length(); length++) {
                fault(text.substring(0, length), length);
                fault("o;" + text.substring(0, length), length + 2);
            }
            fault(text, HandoverDesk.NONE);
        }
        fault("r99", 3);
        fault("r999", 4);
        fault("m10", 3);
        fault("o;", 2);
    }

    private static void empty() {
        HandoverDesk desk = new HandoverDesk();
        Due.due("a new pad", desk.fault(), 0);
        Due.due("carryOut()", desk.carryOut(), HandoverDesk.BAD_TEXT);
        desk.put('o');
        desk.wipe();
        Due.due("a wiped pad", desk.fault(), 0);
        desk.put('o');
        desk.carryOut();
        Due.due("after carrying out", desk.fault(), 0);
        Due.due("carryOut() again", desk.carryOut(), HandoverDesk.BAD_TEXT);
    }

    // ---- 22: put

    private static void oneToEightCharacters() {
        HandoverDesk desk = new HandoverDesk();
        int length = 0;
        for (int count = 1; count <= 8; count++) {
            length += count;
            Due.due("put of " + count, desk.put(Due.packed("eeeeeeee".substring(0, count))), length);
        }
        HandoverDesk eight = new HandoverDesk();
        Due.due("eight of the greatest code", eight.put(0x7e7e7e7e7e7e7e7eL), 8);
        Due.due("eight of the least code", eight.put(0x2121212121212121L), 16);
    }

    private static void theLastCharacterIsTheLowest() {
        HandoverDesk desk = new HandoverDesk();
        desk.put('o' * 256L + ';');
        desk.put(Due.packed("l5.0+99;"));
        desk.put(Due.packed("r1"));
        desk.put('1');
        desk.put(Due.packed("=4"));
        Due.due("all three", desk.carryOut(), 3);
        Due.due("level(5, 0)", desk.level(5, 0), 99);
        Due.due("place(11, 0)", desk.place(11, 0), 4);
    }

    private static void noCharacter() {
        HandoverDesk desk = new HandoverDesk();
        Due.due("put(0)", desk.put(0), HandoverDesk.BAD_VALUE);
        for (int bit = 8; bit < 64; bit++) {
            Due.due("only the bit " + bit, desk.put(1L << bit), HandoverDesk.BAD_VALUE);
        }
        Due.due("the pad is empty", desk.count(17), 0);
    }

    private static void eachCodeAtEachPlace() {
        for (int place = 0; place < 8; place++) {
            long others = 0x6565656565656565L & ~(255L << 8 * place);
            HandoverDesk desk = new HandoverDesk();
            for (long code = 0; code < 256; code++) {
                if (code < 33 || code > 126) {
                    int due = place == 7 && code == 0 ? 7 : HandoverDesk.BAD_VALUE;
                    Due.due("code " + code + " at " + place, desk.put(others | code << 8 * place), due);
                    desk.wipe();
                }
            }
            Due.due("code 33 at " + place, desk.put(others | 33L << 8 * place), 8);
            Due.due("code 126 at " + place, desk.put(others | 126L << 8 * place), 16);
        }
        HandoverDesk alone = new HandoverDesk();
        for (long code = 1; code < 256; code++) {
            Due.due("code " + code + " alone", alone.put(code), code < 33 || code > 126 ? HandoverDesk.BAD_VALUE : 1);
            alone.wipe();
        }
    }

    private static void aBitAboveZeroBits() {
        for (int count = 1; count < 7; count++) {
            long text = Due.packed("eeeeeee".substring(0, count));
            HandoverDesk desk = new HandoverDesk();
            for (int bit = 8 * count + 8; bit < 64; bit++) {
                Due.due("the bit " + bit + " above " + count, desk.put(text | 1L << bit), HandoverDesk.BAD_VALUE);
            }
            Due.due("no bit above " + count, desk.put(text), count);
        }
        HandoverDesk desk = new HandoverDesk();
        Due.due("a character above", desk.put(0x650065L), HandoverDesk.BAD_VALUE);
        Due.due("the eighth above", desk.put(0x6500656565656565L), HandoverDesk.BAD_VALUE);
        Due.due("negative", desk.put(Long.MIN_VALUE), HandoverDesk.BAD_VALUE);
        Due.due("-1", desk.put(-1L), HandoverDesk.BAD_VALUE);
        Due.due("the most", desk.put(Long.MAX_VALUE), HandoverDesk.BAD_VALUE);
    }

    private static void longerThanEighty() {
        for (int length = 73; length <= 80; length++) {
            HandoverDesk desk = padWith("e".repeat(length));
            int room = 80 - length;
            for (int count = room + 1; count <= 8; count++) {
                Due.due(count + " more than " + length, desk.put(Due.packed("eeeeeeee".substring(0, count))),
                        HandoverDesk.TOO_MANY);
            }
            Due.due("as long as before", desk.count(17), length);
            if (room > 0) {
                Due.due("as many as have room", desk.put(Due.packed("eeeeeeee".substring(0, room))), 80);
            }
            Due.due("a bad code comes before the length", desk.put(127), HandoverDesk.BAD_VALUE);
        }
    }

    // ---- 23: wipe

    private static void theLengthThatItHad() {
        HandoverDesk desk = new HandoverDesk();
        Due.due("an empty one", desk.wipe(), 0);
        desk.put('!');
        Due.due("one character", desk.wipe(), 1);
        Due.write(desk, "e".repeat(80));
        Due.due("a full one", desk.wipe(), 80);
        Due.due("wiped before", desk.wipe(), 0);
        Due.due("count(17)", desk.count(17), 0);
        Due.due("there is room again", desk.put(Due.packed("eeeeeeee")), 8);
        Due.due("not recorded", desk.count(18), 0);
        HandoverDesk busy = Due.busyDesk();
        busy.wipe();
        Due.holds("nothing but the pad", Due.told(Due.busyDesk()).equals(Due.told(busy)));
    }

    private static void nothingIsLeftOfAWipedText() {
        HandoverDesk desk = padWith("o;o;o;x9");
        desk.wipe();
        desk.put('o');
        Due.due("fault()", desk.fault(), HandoverDesk.NONE);
        Due.due("carryOut()", desk.carryOut(), 1);
        Due.due("count(2)", desk.count(2), 1);
        for (String text : new String[] {"l0.1+234", "r999=0", "m0=999;e", "x0;o", "e;e;e"}) {
            for (int length = 0; length <= text.length(); length++) {
                HandoverDesk again = padWith(text);
                again.wipe();
                Due.write(again, text.substring(0, length));
                Due.due(length + " of " + text, again.fault(), padWith(text.substring(0, length)).fault());
            }
        }
    }

    private static void nothingIsLeftOfATextCarriedOut() {
        HandoverDesk desk = padWith("o;o;o;x0;x1;x2");
        Due.due("six", desk.carryOut(), 6);
        Due.write(desk, "o;o;o;x");
        Due.due("too early", desk.fault(), 7);
        desk.put('3');
        Due.due("four", desk.carryOut(), 4);
        Due.due("six topics", desk.count(2), 6);
    }

    // ---- 24: fault

    private static void faultLeavesThePad() {
        HandoverDesk desk = padWith("o;o");
        Due.due("none", desk.fault(), HandoverDesk.NONE);
        Due.due("none again", desk.fault(), HandoverDesk.NONE);
        desk.put(';');
        Due.due("too early", desk.fault(), 4);
        desk.put('e');
        Due.due("none any more", desk.fault(), HandoverDesk.NONE);
        desk.put('e');
        Due.due("one too many", desk.fault(), 5);
        Due.due("the length", desk.count(17), 6);
        Due.due("nothing was carried out", desk.count(2), 0);
        Due.unchangedBy("fault", HandoverDesk::fault);
    }

    // ---- 25: carryOut

    private static HandoverDesk deskForOrders(String text) {
        HandoverDesk desk = Due.deskWith(2);
        desk.learn(3, 0, 10);
        Due.write(desk, text);
        return desk;
    }

    private static void carriedOut(String text, int due) {
        HandoverDesk desk = deskForOrders(text);
        Due.due("carryOut of " + text, desk.carryOut(), due);
        Due.due("the pad after " + text, desk.count(17), 0);
        Due.due("one change: " + text, desk.count(18), 4);
        desk.undo();
        Due.holds("it is undone: " + text, Due.told(desk).equals(Due.told(deskForOrders(""))));
    }

    private static void upToTheFirstError() {
        carriedOut("x1;x1;x2;e", 2);
        carriedOut("k1;k0;k2;e", 2);
        carriedOut("c0;c1;e", 1);
        carriedOut("c2;e", 0);
        carriedOut("x0;c0;e", 1);
        carriedOut("l5.1+1;l0.2+1;e", 1);
        carriedOut("l5.1+100;l5.1+101;e", 1);
        carriedOut("l5.1+1;l5.1+0;e", 1);
        carriedOut("l5.1+999;e", 0);
        carriedOut("r0=5;r11=0;r12=0;e", 2);
        carriedOut("r999=0;e", 0);
        carriedOut("m0=60;m11=0;m12=0;e", 2);
        carriedOut("m0=61;e", 0);
        carriedOut("m999=999;e", 0);
        carriedOut("o;o;o;o;o;o;o;o;o;e", 8);
        carriedOut("e;e;e;x9", 3);
    }

    private static void whatComesAfterAnErrorIsLeft() {
        HandoverDesk desk = deskForOrders("r0=4;x2;r0=5");
        Due.due("carryOut()", desk.carryOut(), 1);
        Due.due("what came before it", desk.place(0, 0), 4);
        desk.put('e');
        Due.due("the rest is not on the pad", desk.carryOut(), 1);
        Due.due("the worker stays", desk.place(0, 0), 4);
    }

    private static void allWithOneError() {
        HandoverDesk desk = deskForOrders("x9");
        for (int i = 0; i < 3; i++) {
            desk.undo();
        }
        Due.due("no order", desk.carryOut(), 0);
        Due.due("recorded nevertheless", desk.count(18), 1);
        Due.due("the pad is empty", desk.count(17), 0);
    }

    private static void fortyOrders() {
        HandoverDesk desk = padWith("e;".repeat(39) + "e");
        Due.due("carryOut()", desk.carryOut(), 40);
        Due.due("forty shifts", desk.count(0), 40);
        Due.due("one change", desk.count(18), 1);
        Due.due("undo()", desk.undo(), 0);
        Due.due("all are undone", desk.count(0), 0);
    }

    private static void theSameAsTheCalls() {
        HandoverDesk orders = new HandoverDesk();
        Due.write(orders, "o;o;o;l0.0+60;l2.1+100;k1;k0;x2;r1=4;m0=7;r11=5;m11=60;c1;e;e");
        Due.due("carryOut()", orders.carryOut(), 15);
        HandoverDesk calls = Due.deskWith(3);
        calls.learn(0, 0, 60);
        calls.learn(2, 1, 100);
        calls.check(1);
        calls.check(0);
        calls.turn(2);
        calls.roster(1, 4);
        calls.minutes(0, 7);
        calls.roster(11, 5);
        calls.minutes(11, 60);
        calls.call(1);
        calls.endShift();
        calls.endShift();
        Due.holds("the same states", Due.told(orders).equals(Due.told(calls)));
    }

    private static void thePadStaysWithAFault() {
        for (String text : new String[] {"", "x", "o;", "o;;", "o;x10", "e;e;!"}) {
            HandoverDesk desk = padWith(text);
            String before = Due.told(desk);
            Due.due("carryOut of " + text, desk.carryOut(), HandoverDesk.BAD_TEXT);
            Due.due("the pad of " + text, desk.count(17), text.length());
            Due.due("nothing is recorded: " + text, desk.count(18), 0);
            Due.holds("nothing is carried out: " + text, before.equals(Due.told(desk)));
        }
        HandoverDesk mended = padWith("o;x");
        mended.carryOut();
        mended.put('0');
        Due.due("a text that is ended after it", mended.carryOut(), 2);
    }

    private static void terms() {
        Due.sentence("The pad is a text of at most 80 characters, a row of orders:", TextsBoundaryTest::atMostEightyCharacters);
        Due.sentence("text = order { \";\" order }", TextsBoundaryTest::ordersAndSemicolons);
        Due.sentence("order = \"o\" | \"x\" topic | \"k\" topic | \"c\" topic |", TextsBoundaryTest::whatAnOrderBeginsWith);
        Due.sentence("A topic is a digit, a worker a digit from 0 to 5,", TextsBoundaryTest::topicsAndWorkers);
        Due.sentence("\"l\" worker \".\" topic \"+\" number | \"r\" number \"=\" worker | \"m\" number \"=\" number | \"e\"",
                TextsBoundaryTest::theSignsBetween);
        Due.sentence("a number is 0 to 999,", TextsBoundaryTest::numbersUpTo999);
        Due.sentence("without leading zeros.", TextsBoundaryTest::withoutLeadingZeros);
        Due.sentence("(also of a digit by which a number would be above 999)", TextsBoundaryTest::aDigitByWhichItWouldBeAbove999);
        Due.sentence("The fault is the index of the first character that cannot stand at its place when the text is read from"
                + " left to right", TextsBoundaryTest::theFirstCharacterThatCannotStandThere);
        Due.sentence("if there is none and the text ends too early (also if it is empty), it is the length of the text.",
                TextsBoundaryTest::tooEarly);
        Due.sentence("(also if it is empty)", TextsBoundaryTest::empty);
    }

    private static void promisesTwentyTwoAndTwentyThree() {
        Due.sentence("- `characters`: 1 to 8 characters", TextsBoundaryTest::oneToEightCharacters);
        Due.sentence("its lowest 8 bits are the last character, the next 8 bits the one before, and so on;",
                TextsBoundaryTest::theLastCharacterIsTheLowest);
        Due.sentence("BAD_VALUE if there is no character,", TextsBoundaryTest::noCharacter);
        Due.sentence("a code is not 33 to 126,", TextsBoundaryTest::eachCodeAtEachPlace);
        Due.sentence("8 bits that are 0 mean that there are no more characters, and everything above them has to be 0, too.",
                TextsBoundaryTest::aBitAboveZeroBits);
        Due.sentence("TOO_MANY if the pad would be longer than 80.", TextsBoundaryTest::longerThanEighty);
        Due.sentence("Empties the pad, and returns the length that it had.", TextsBoundaryTest::theLengthThatItHad);
        Due.sentence("Empties the pad,", TextsBoundaryTest::nothingIsLeftOfAWipedText);
    }

    private static void promisesTwentyFourAndTwentyFive() {
        Due.sentence("Returns the fault of the pad, NONE if there is none.", TextsBoundaryTest::faultLeavesThePad);
        String first = "one after the other, up to the first one that returns an error, and empties the pad.";
        Due.sentence(first, TextsBoundaryTest::upToTheFirstError);
        Due.sentence(first, TextsBoundaryTest::whatComesAfterAnErrorIsLeft);
        Due.sentence("and empties the pad.", TextsBoundaryTest::nothingIsLeftOfATextCarriedOut);
        Due.sentence("also if none is carried out).", TextsBoundaryTest::allWithOneError);
        Due.sentence("This is a change (one, with all of them;", TextsBoundaryTest::fortyOrders);
        Due.sentence("\"l\": learn() so many points;", TextsBoundaryTest::theSameAsTheCalls);
        Due.sentence("Returns how many orders were carried out; BAD_TEXT if the pad has a fault (then it stays).",
                TextsBoundaryTest::thePadStaysWithAFault);
    }

    public static void main(String[] args) {
        terms();
        promisesTwentyTwoAndTwentyThree();
        promisesTwentyFourAndTwentyFive();
        Due.end();
    }
}
