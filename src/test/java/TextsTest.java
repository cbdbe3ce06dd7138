/** Promises 22 to 25: texts. */
public final class TextsTest {
    private static void put() {
        HandoverDesk desk = new HandoverDesk();
        Due.due("put(!)", desk.put(33), 1);
        Due.due("put(~)", desk.put(126), 2);
        Due.due("put(space)", desk.put(32), HandoverDesk.BAD_VALUE);
        Due.due("put(127)", desk.put(127), HandoverDesk.BAD_VALUE);
        Due.due("put(128)", desk.put(128), HandoverDesk.BAD_VALUE);
        Due.due("put(0)", desk.put(0), HandoverDesk.BAD_VALUE);
        Due.due("put(-1)", desk.put(-1), HandoverDesk.BAD_VALUE);
        Due.due("put(MIN)", desk.put(Long.MIN_VALUE), HandoverDesk.BAD_VALUE);
        Due.due("nothing in the lowest 8 bits", desk.put(0x6f00L), HandoverDesk.BAD_VALUE);
        Due.due("something above a 0", desk.put(0x6f006fL), HandoverDesk.BAD_VALUE);
        Due.due("something far above a 0", desk.put(1L << 63 | 0x6f6fL), HandoverDesk.BAD_VALUE);
        Due.due("a bad one amid good ones", desk.put(0x6f206fL), HandoverDesk.BAD_VALUE);
        Due.due("a bad one as the first of eight", desk.put(0x7f6f6f6f6f6f6f6fL), HandoverDesk.BAD_VALUE);
        Due.due("count(17)", desk.count(17), 2);
        Due.due("eight", desk.put(Due.packed("~~~~~~~~")), 10);
        Due.due("puts are not recorded", desk.count(18), 0);
    }

    private static void theOrderOfCharacters() {
        HandoverDesk desk = new HandoverDesk();
        desk.put(Due.packed("o;l3.0+7"));
        desk.put(Due.packed("1;e"));
        Due.due("carryOut()", desk.carryOut(), 3);
        Due.due("level(3, 0)", desk.level(3, 0), 63);
    }

    private static void tooLong() {
        HandoverDesk desk = new HandoverDesk();
        for (int i = 1; i <= 9; i++) {
            Due.due("put", desk.put(Due.packed("e;e;e;e;")), 8 * i);
        }
        Due.due("four more", desk.put(Due.packed("e;e;")), 76);
        Due.due("five are too many", desk.put(Due.packed("e;e;e")), HandoverDesk.TOO_MANY);
        Due.due("a bad value comes before", desk.put(0x6f6f6f6f6f20L), HandoverDesk.BAD_VALUE);
        Due.due("count(17)", desk.count(17), 76);
        Due.due("80 of them", desk.put(Due.packed("e;e;")), 80);
        Due.due("the end comes too early", desk.fault(), 80);
        Due.due("no room at all", desk.put(Due.packed("e")), HandoverDesk.TOO_MANY);
        Due.due("wipe()", desk.wipe(), 80);
        Due.due("wipe() again", desk.wipe(), 0);
        Due.due("the pad is empty", desk.count(17), 0);
        Due.due("from the beginning", desk.put(Due.packed("e")), 1);
        Due.due("nothing is left of it", desk.fault(), HandoverDesk.NONE);
        desk.wipe();
        Due.write(desk, "e;".repeat(39) + "ee");
        Due.due("the last of 80", desk.fault(), 79);
        desk.wipe();
        Due.write(desk, "e;".repeat(38) + "m11=");
        Due.due("79 would do", desk.fault(), 80);
        desk.wipe();
        Due.write(desk, "e;".repeat(38) + "x9;o");
        Due.due("40 orders", desk.fault(), HandoverDesk.NONE);
    }

    private static void fault(String text, int due) {
        HandoverDesk desk = new HandoverDesk();
        Due.write(desk, text);
        Due.due("fault of " + text, desk.fault(), due);
        Due.due("length of " + text, desk.count(17), text.length());
        if (due != HandoverDesk.NONE) {
            Due.due("carryOut of " + text, desk.carryOut(), HandoverDesk.BAD_TEXT);
            Due.due("the pad stays: " + text, desk.count(17), text.length());
            Due.due("nothing is recorded: " + text, desk.count(18), 0);
        }
    }

    private static void faults() {
        String[] good = {"o", "e", "x0", "x9", "k0", "k9", "c0", "c9", "l0.0+0", "l5.9+999", "l1.2+10", "r0=0", "r999=5",
            "r12=3", "m0=0", "m999=999", "m10=100", "o;e", "x1;k2;c3;l4.5+6;r7=1;m8=9;e;o"};
        for (String text : good) {
            fault(text, HandoverDesk.NONE);
            fault(text + ";", text.length() + 1);
            fault(text + "!", text.length());
            fault(text + ";!", text.length() + 1);
            fault(text + ";;", text.length() + 1);
            fault(";" + text, 0);
        }
        for (String letters = "abdfghijnpqstuvwyzOE019.+=;!~"; !letters.isEmpty(); letters = letters.substring(1)) {
            fault(letters.substring(0, 1), 0);
            fault("e;" + letters.charAt(0), 2);
        }
        String[] early = {"x", "k", "c", "l", "l0", "l0.", "l0.9", "l0.9+", "r", "r0", "r10", "r100", "r1=", "m", "m9", "m9="};
        for (String text : early) {
            fault(text, text.length());
            fault("o;" + text, text.length() + 2);
            fault(text + ";", text.length());
        }
        String[] lastIsWrong = {"oo", "o0", "ee", "xa", "x/", "x:", "x10", "k00", "c12", "l6", "l/", "la", "l0,", "l0.a", "l0.1-",
            "l0.1+a", "l0.1+00", "l0.1+07", "l0.1+1000", "l0.1+9999", "r=", "r01", "r1000", "r00", "r1.", "r1=6", "r1=a", "r1=00",
            "r1=10", "m=", "ma", "m01", "m1000", "m1=01", "m1=1000", "m1=1=", "m1=;", "m1+"};
        for (String text : lastIsWrong) {
            fault(text, text.length() - 1);
            fault("m1=999;" + text, text.length() + 6);
            fault(text + "0;o", text.length() - 1);
        }
        fault("", 0);
    }

    private static void carryOut() {
        HandoverDesk desk = new HandoverDesk();
        Due.write(desk, "o;o;x1;k1;k0;l2.0+100;r11=5;m3=60;c0;e");
        Due.due("all ten", desk.carryOut(), 10);
        Due.due("the pad is empty", desk.count(17), 0);
        Due.due("one change", desk.count(18), 1);
        Due.due("o", desk.count(2), 2);
        Due.due("x", desk.ofTopic(1, 0), 0);
        Due.due("k", desk.checklist(0), 1);
        Due.due("k again", desk.checklist(1), 0);
        Due.due("l", desk.level(2, 0), 90);
        Due.due("r", desk.place(11, 0), 5);
        Due.due("m", desk.place(3, 1), 60);
        Due.due("c", desk.count(8), 40);
        Due.due("e", desk.count(0), 1);
        Due.due("undo()", desk.undo(), 0);
        Due.holds("all is undone", Due.told(desk).equals(Due.told(new HandoverDesk())));
    }

    private static void carriedOutOf(String text, int due) {
        HandoverDesk desk = Due.deskWith(1);
        desk.learn(3, 0, 10);
        Due.write(desk, text);
        Due.due("carryOut of " + text, desk.carryOut(), due);
        Due.due("the pad after " + text, desk.count(17), 0);
        Due.due("recorded: " + text, desk.count(18), 3);
    }

    private static void upToTheFirstError() {
        carriedOutOf("x1", 0);
        carriedOutOf("e;x1;e", 1);
        carriedOutOf("k1", 0);
        carriedOutOf("c1", 0);
        carriedOutOf("c0;c0;c0;c0;c0;c0", 4);
        carriedOutOf("x0;c0", 1);
        carriedOutOf("l0.1+5", 0);
        carriedOutOf("l0.0+0", 0);
        carriedOutOf("l0.0+101", 0);
        carriedOutOf("l5.0+100;l5.0+100", 2);
        carriedOutOf("r12=0", 0);
        carriedOutOf("r11=5;r999=5;e", 1);
        carriedOutOf("m12=0", 0);
        carriedOutOf("m11=61", 0);
        carriedOutOf("m0=60;m0=0;m0=999", 2);
        carriedOutOf("o;o;o;o;o;o;o;o;o;o", 9);
        carriedOutOf("e;".repeat(39) + "e", 40);
        HandoverDesk desk = new HandoverDesk();
        Due.write(desk, "o;c0;e");
        Due.due("what came before stands", desk.carryOut(), 1);
        Due.due("count(2)", desk.count(2), 1);
        Due.due("what comes after does not", desk.count(0), 0);
    }

    private static void thePadIsNotUndone() {
        HandoverDesk desk = Due.deskWith(1);
        Due.write(desk, "e");
        desk.undo();
        Due.due("undo leaves the pad", desk.count(17), 1);
        desk.carryOut();
        desk.undo();
        Due.due("it stays empty", desk.count(17), 0);
    }

    public static void main(String[] args) {
        put();
        theOrderOfCharacters();
        tooLong();
        faults();
        carryOut();
        upToTheFirstError();
        thePadIsNotUndone();
        Due.end();
    }
}
