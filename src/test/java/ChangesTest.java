/** Promises 1 to 9: the changes, but for the end of a shift. */
public final class ChangesTest {
    private static void aNewObject() {
        HandoverDesk desk = new HandoverDesk();
        int[] counts = {0, 0, 0, 0, 0, 0, 0, 0, 0, 0, 0, 50, 5, 10, 8, 3, 40, 0, 0};
        for (int what = 0; what < counts.length; what++) {
            Due.due("new: count(" + what + ")", desk.count(what), counts[what]);
        }
        for (int place = 0; place < 12; place++) {
            Due.due("new: place(" + place + ", 0)", desk.place(place, 0), place % 3);
            Due.due("new: place(" + place + ", 1)", desk.place(place, 1), 10);
        }
        Due.due("new: checklist(0)", desk.checklist(0), HandoverDesk.NO_SUCH);
        Due.due("new: level(0, 0)", desk.level(0, 0), HandoverDesk.NO_SUCH);
        Due.due("new: fault()", desk.fault(), 0);
        Due.due("new: carryOut()", desk.carryOut(), HandoverDesk.BAD_TEXT);
        Due.due("new: undo()", desk.undo(), HandoverDesk.NOT_POSSIBLE);
        Due.due("new: restore(0)", desk.restore(0), HandoverDesk.NOT_POSSIBLE);
        Due.due("new: restore(1)", desk.restore(1), HandoverDesk.NOT_POSSIBLE);
        Due.due("new: leastMinutes()", desk.leastMinutes(), 0);
        Due.due("new: lostIn(50)", desk.lostIn(50), 0);
        Due.due("new: bestSplit(7, 3)", desk.bestSplit(7, 3), 7);
        Due.due("new: wipe()", desk.wipe(), 0);
        Due.due("new: endShift()", desk.endShift(), 0);
        Due.due("new: count(5)", desk.count(5), 10);
        Due.due("new: count(6)", desk.count(6), 10);
        Due.due("new: count(7)", desk.count(7), 30);
    }

    private static void twoDesksAreApart() {
        HandoverDesk one = Due.deskWith(2);
        HandoverDesk other = new HandoverDesk();
        one.set(HandoverDesk.KNOWN, 70);
        one.roster(0, 5);
        Due.due("other desk: count(2)", other.count(2), 0);
        Due.due("other desk: count(11)", other.count(11), 50);
        Due.due("other desk: place(0, 0)", other.place(0, 0), 0);
    }

    private static void setting(int setting, int first, int least, int most) {
        HandoverDesk desk = new HandoverDesk();
        String name = "setting " + setting;
        Due.due(name + " below", desk.set(setting, least - 1), HandoverDesk.BAD_VALUE);
        Due.due(name + " above", desk.set(setting, most + 1), HandoverDesk.BAD_VALUE);
        Due.due(name + " far below", desk.set(setting, Integer.MIN_VALUE), HandoverDesk.BAD_VALUE);
        Due.due(name + " far above", desk.set(setting, Integer.MAX_VALUE), HandoverDesk.BAD_VALUE);
        Due.due(name + " unchanged", desk.count(11 + setting), first);
        Due.due(name + " least", desk.set(setting, least), first);
        Due.due(name + " is least", desk.count(11 + setting), least);
        Due.due(name + " most", desk.set(setting, most), least);
        Due.due(name + " is most", desk.count(11 + setting), most);
        Due.due(name + " recorded", desk.count(18), 2);
    }

    private static void set() {
        setting(HandoverDesk.KNOWN, 50, 1, 100);
        setting(HandoverDesk.PASS, 5, 1, 20);
        setting(HandoverDesk.DECAY, 10, 0, 50);
        setting(HandoverDesk.WORK, 8, 0, 20);
        setting(HandoverDesk.COST, 3, 0, 99);
        setting(HandoverDesk.CALL, 40, 0, 999);
        HandoverDesk desk = new HandoverDesk();
        Due.due("set(6, 5)", desk.set(6, 5), HandoverDesk.BAD_VALUE);
        Due.due("set(-1, 5)", desk.set(-1, 5), HandoverDesk.BAD_VALUE);
        Due.due("set(MIN, 5)", desk.set(Integer.MIN_VALUE, 5), HandoverDesk.BAD_VALUE);
    }

    private static void roster() {
        HandoverDesk desk = new HandoverDesk();
        Due.due("roster(0, 5)", desk.roster(0, 5), 0);
        Due.due("on duty at once", desk.count(1), 5);
        Due.due("roster(0, 4)", desk.roster(0, 4), 5);
        Due.due("roster(11, 0)", desk.roster(11, 0), 2);
        Due.due("place(11, 0)", desk.place(11, 0), 0);
        Due.due("roster(0, 6)", desk.roster(0, 6), HandoverDesk.NO_SUCH);
        Due.due("roster(0, -1)", desk.roster(0, -1), HandoverDesk.NO_SUCH);
        Due.due("roster(12, 0)", desk.roster(12, 0), HandoverDesk.BAD_VALUE);
        Due.due("roster(-1, 0)", desk.roster(-1, 0), HandoverDesk.BAD_VALUE);
        Due.due("the worker is looked at first", desk.roster(12, 6), HandoverDesk.NO_SUCH);
        Due.due("place(0, 0)", desk.place(0, 0), 4);
        Due.due("errors are not recorded", desk.count(18), 3);
    }

    private static void minutes() {
        HandoverDesk desk = new HandoverDesk();
        Due.due("minutes(0, 0)", desk.minutes(0, 0), 10);
        Due.due("minutes(0, 60)", desk.minutes(0, 60), 0);
        Due.due("minutes(11, 1)", desk.minutes(11, 1), 10);
        Due.due("minutes(0, 61)", desk.minutes(0, 61), HandoverDesk.BAD_VALUE);
        Due.due("minutes(0, -1)", desk.minutes(0, -1), HandoverDesk.BAD_VALUE);
        Due.due("minutes(12, 1)", desk.minutes(12, 1), HandoverDesk.BAD_VALUE);
        Due.due("minutes(-1, 1)", desk.minutes(-1, 1), HandoverDesk.BAD_VALUE);
        Due.due("place(0, 1)", desk.place(0, 1), 60);
        Due.due("place(11, 1)", desk.place(11, 1), 1);
        Due.due("place(1, 1)", desk.place(1, 1), 10);
        Due.due("errors are not recorded", desk.count(18), 3);
    }

    private static void open() {
        HandoverDesk desk = new HandoverDesk();
        for (int topic = 0; topic < 10; topic++) {
            Due.due("open()", desk.open(), topic);
            Due.due("it is open", desk.ofTopic(topic, 0), 1);
            Due.due("nobody knows it", desk.ofTopic(topic, 1), 2);
        }
        Due.due("count(2)", desk.count(2), 10);
        Due.due("the eleventh", desk.open(), HandoverDesk.TOO_MANY);
        desk.turn(3);
        Due.due("closed ones count, too", desk.open(), HandoverDesk.TOO_MANY);
        Due.due("count(2) still", desk.count(2), 10);
    }

    private static void turn() {
        HandoverDesk desk = Due.deskWith(2);
        Due.due("turn(1)", desk.turn(1), 0);
        Due.due("ofTopic(1, 0)", desk.ofTopic(1, 0), 0);
        Due.due("ofTopic(0, 0)", desk.ofTopic(0, 0), 1);
        Due.due("count(3)", desk.count(3), 1);
        Due.due("turn(1) again", desk.turn(1), 1);
        Due.due("count(3) again", desk.count(3), 2);
        Due.due("turn(2)", desk.turn(2), HandoverDesk.NO_SUCH);
        Due.due("turn(-1)", desk.turn(-1), HandoverDesk.NO_SUCH);
        Due.due("turn(MAX)", desk.turn(Integer.MAX_VALUE), HandoverDesk.NO_SUCH);
        Due.due("count(18)", desk.count(18), 4);
    }

    private static void check() {
        HandoverDesk desk = Due.deskWith(4);
        desk.turn(2);
        int[] order = {3, 0, 2, 1};
        for (int i = 0; i < 4; i++) {
            Due.due("check(" + order[i] + ")", desk.check(order[i]), i + 1);
        }
        Due.due("out of the middle", desk.check(0), 3);
        int[] left = {3, 2, 1, HandoverDesk.NO_SUCH};
        for (int i = 0; i < 4; i++) {
            Due.due("checklist(" + i + ")", desk.checklist(i), left[i]);
        }
        Due.due("in again, at the end", desk.check(0), 4);
        Due.due("checklist(3)", desk.checklist(3), 0);
        Due.due("out at the end", desk.check(0), 3);
        Due.due("out at the beginning", desk.check(3), 2);
        Due.due("checklist(0)", desk.checklist(0), 2);
        Due.due("check(4)", desk.check(4), HandoverDesk.NO_SUCH);
        Due.due("check(-1)", desk.check(-1), HandoverDesk.NO_SUCH);
        HandoverDesk full = Due.deskWith(10);
        for (int topic = 9; topic >= 0; topic--) {
            Due.due("all in: check(" + topic + ")", full.check(topic), 10 - topic);
        }
        Due.due("all in: checklist(9)", full.checklist(9), 0);
        Due.due("all in: out", full.check(9), 9);
        Due.due("all in: checklist(8)", full.checklist(8), 0);
    }

    private static void learn() {
        HandoverDesk desk = Due.deskWith(2);
        Due.due("learn(5, 1, 1)", desk.learn(5, 1, 1), 1);
        Due.due("learn(5, 1, 98)", desk.learn(5, 1, 98), 99);
        Due.due("up to 100", desk.learn(5, 1, 1), 100);
        Due.due("not above 100", desk.learn(5, 1, 100), 100);
        Due.due("learn(0, 0, 100)", desk.learn(0, 0, 100), 100);
        Due.due("only that one", desk.level(5, 0), 0);
        desk.turn(0);
        Due.due("a closed topic", desk.learn(1, 0, 7), 7);
        Due.due("learn(6, 0, 1)", desk.learn(6, 0, 1), HandoverDesk.NO_SUCH);
        Due.due("learn(-1, 0, 1)", desk.learn(-1, 0, 1), HandoverDesk.NO_SUCH);
        Due.due("learn(0, 2, 1)", desk.learn(0, 2, 1), HandoverDesk.NO_SUCH);
        Due.due("learn(0, -1, 1)", desk.learn(0, -1, 1), HandoverDesk.NO_SUCH);
        Due.due("learn(2, 0, 0)", desk.learn(2, 0, 0), HandoverDesk.BAD_VALUE);
        Due.due("learn(2, 0, 101)", desk.learn(2, 0, 101), HandoverDesk.BAD_VALUE);
        Due.due("learn(2, 0, MAX)", desk.learn(2, 0, Integer.MAX_VALUE), HandoverDesk.BAD_VALUE);
        Due.due("who comes before how much", desk.learn(6, 0, 0), HandoverDesk.NO_SUCH);
        Due.due("what comes before how much", desk.learn(0, 2, 0), HandoverDesk.NO_SUCH);
        Due.due("level(2, 0)", desk.level(2, 0), 0);
    }

    private static void call() {
        HandoverDesk desk = Due.deskWith(2);
        Due.due("nobody has more", desk.call(0), HandoverDesk.NOT_POSSIBLE);
        desk.learn(3, 0, 60);
        desk.learn(5, 0, 61);
        Due.due("the greatest, rounded up", desk.call(0), 31);
        Due.due("the one called keeps the level", desk.level(5, 0), 61);
        Due.due("count(8)", desk.count(8), 40);
        desk.set(HandoverDesk.CALL, 999);
        Due.due("(31 + 61) / 2", desk.call(0), 46);
        Due.due("count(8) then", desk.count(8), 1039);
        desk.set(HandoverDesk.CALL, 0);
        desk.learn(0, 0, 14);
        Due.due("one more is enough", desk.call(0), 61);
        Due.due("as much is not", desk.call(0), HandoverDesk.NOT_POSSIBLE);
        desk.learn(0, 0, 1);
        Due.due("less is not", desk.call(0), HandoverDesk.NOT_POSSIBLE);
        Due.due("call(2)", desk.call(2), HandoverDesk.NO_SUCH);
        Due.due("call(-1)", desk.call(-1), HandoverDesk.NO_SUCH);
        desk.learn(1, 1, 50);
        desk.turn(1);
        Due.due("about a closed one", desk.call(1), HandoverDesk.NOT_POSSIBLE);
        desk.turn(1);
        Due.due("about it when it is open again", desk.call(1), 25);
        Due.due("count(8) in the end", desk.count(8), 1039);
        HandoverDesk first = Due.deskWith(1);
        first.roster(0, 2);
        first.learn(0, 0, 9);
        Due.due("the worker 0 is called, too", first.call(0), 5);
        HandoverDesk oneself = Due.deskWith(1);
        oneself.learn(0, 0, 90);
        oneself.learn(1, 0, 80);
        Due.due("nobody calls oneself", oneself.call(0), HandoverDesk.NOT_POSSIBLE);
    }

    private static void errorsChangeNothing() {
        HandoverDesk desk = Due.deskWith(10);
        desk.learn(1, 0, 30);
        desk.turn(9);
        String before = Due.told(desk);
        int undoable = desk.count(18);
        int sum = desk.set(0, 0) + desk.set(6, 1) + desk.roster(12, 1) + desk.roster(1, 6) + desk.minutes(1, 61)
                + desk.minutes(12, 1) + desk.open() + desk.turn(10) + desk.check(10) + desk.learn(6, 0, 1)
                + desk.learn(0, 10, 1) + desk.learn(0, 0, 101) + desk.call(10) + desk.call(1) + desk.call(9);
        Due.due("fifteen errors", sum, -2 - 2 - 2 - 1 - 2 - 2 - 4 - 1 - 1 - 1 - 1 - 2 - 1 - 5 - 5);
        Due.holds("errors change nothing", before.equals(Due.told(desk)));
        Due.due("errors are not recorded", desk.count(18), undoable);
    }

    public static void main(String[] args) {
        aNewObject();
        twoDesksAreApart();
        set();
        roster();
        minutes();
        open();
        turn();
        check();
        learn();
        call();
        errorsChangeNothing();
        Due.end();
    }
}
