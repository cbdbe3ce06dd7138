/** Promises 26 to 28: undo and saved states. */
public final class UndoSaveTest {
    private static final int KINDS = 12;

    /** A desk on which each kind of change can be made, and is seen. */
    private static HandoverDesk ready() {
        HandoverDesk desk = Due.deskWith(3);
        desk.learn(1, 0, 70);
        desk.learn(0, 1, 30);
        desk.check(0);
        desk.save(1);
        desk.endShift();
        desk.roster(1, 0);
        Due.write(desk, "o;e;c9");
        return desk;
    }

    private static int change(HandoverDesk desk, int kind) {
        switch (kind) {
            case 0: return desk.set(HandoverDesk.COST, 4);
            case 1: return desk.roster(4, 5);
            case 2: return desk.minutes(4, 5);
            case 3: return desk.open();
            case 4: return desk.turn(1);
            case 5: return desk.check(1);
            case 6: return desk.check(0);
            case 7: return desk.learn(5, 2, 9);
            case 8: return desk.call(0);
            case 9: return desk.endShift();
            case 10: return desk.carryOut();
            default: return desk.restore(1);
        }
    }

    private static void eachChangeIsUndone() {
        for (int kind = 0; kind < KINDS; kind++) {
            HandoverDesk desk = ready();
            String before = Due.told(ready());
            Due.holds("change " + kind + " is no error", change(desk, kind) >= 0);
            Due.holds("change " + kind + " is seen", !before.equals(Due.told(desk)));
            Due.due("change " + kind + " is recorded", desk.count(18), 6);
            Due.due("change " + kind + " is undone", desk.undo(), 5);
            Due.holds("change " + kind + " leaves nothing", before.equals(Due.told(desk)));
        }
    }

    private static void sixAreKept() {
        HandoverDesk desk = new HandoverDesk();
        for (int i = 0; i < 8; i++) {
            Due.due("open()", desk.open(), i);
            Due.due("count(18)", desk.count(18), Math.min(6, i + 1));
        }
        for (int i = 7; i >= 2; i--) {
            Due.due("undo()", desk.undo(), i - 2);
            Due.due("back to " + i, desk.count(2), i);
        }
        Due.due("no more", desk.undo(), HandoverDesk.NOT_POSSIBLE);
        Due.due("two topics stay", desk.count(2), 2);
        Due.due("a change after it", desk.endShift(), 0);
        Due.due("is undone", desk.undo(), 0);
        Due.due("count(0)", desk.count(0), 0);
    }

    private static void changesAfterAnUndo() {
        HandoverDesk desk = Due.deskWith(2);
        desk.undo();
        String first = Due.told(desk);
        desk.learn(1, 0, 10);
        String second = Due.told(desk);
        desk.learn(2, 0, 20);
        String third = Due.told(desk);
        desk.learn(3, 0, 30);
        Due.due("undo()", desk.undo(), 3);
        Due.holds("one change back", third.equals(Due.told(desk)));
        Due.due("undo()", desk.undo(), 2);
        Due.holds("two changes back", second.equals(Due.told(desk)));
        Due.due("undo()", desk.undo(), 1);
        Due.holds("three changes back", first.equals(Due.told(desk)));
    }

    private static void recordedWithoutADifference() {
        HandoverDesk desk = Due.deskWith(1);
        Due.due("set", desk.set(HandoverDesk.KNOWN, 50), 50);
        Due.due("roster", desk.roster(0, 0), 0);
        Due.due("minutes", desk.minutes(0, 10), 10);
        Due.due("learn", desk.learn(0, 0, 100), 100);
        Due.due("learn no more", desk.learn(0, 0, 100), 100);
        Due.due("count(18)", desk.count(18), 6);
        HandoverDesk none = new HandoverDesk();
        Due.write(none, "c0");
        Due.due("no order", none.carryOut(), 0);
        Due.due("recorded", none.count(18), 1);
        Due.due("undo()", none.undo(), 0);
    }

    private static void notRecorded() {
        HandoverDesk desk = Due.deskWith(1);
        desk.put('o');
        desk.fault();
        desk.wipe();
        desk.put('!');
        desk.carryOut();
        desk.save(0);
        desk.restore(1);
        desk.restore(2);
        desk.call(0);
        desk.leastMinutes();
        desk.lostIn(3);
        desk.bestSplit(3, 0);
        desk.mean(0);
        Due.due("count(18)", desk.count(18), 1);
        Due.due("undo()", desk.undo(), 0);
        Due.due("undo() is not recorded", desk.count(18), 0);
    }

    private static void restoredAfter(int kind) {
        HandoverDesk desk = ready();
        Due.due("save(0)", desk.save(0), 1);
        change(desk, kind);
        desk.endShift();
        desk.endShift();
        String after = Due.told(desk);
        Due.holds("it is another state after " + kind, !Due.told(ready()).equals(after));
        Due.due("restore(0)", desk.restore(0), 1);
        Due.holds("all is back after " + kind, Due.told(ready()).equals(Due.told(desk)));
        Due.due("undo()", desk.undo(), 5);
        Due.holds("restoring is undone after " + kind, after.equals(Due.told(desk)));
    }

    private static void saveAndRestore() {
        for (int kind = 0; kind < KINDS; kind++) {
            restoredAfter(kind);
        }
        HandoverDesk desk = ready();
        desk.save(0);
        Due.due("the other slot is apart", desk.restore(1), 0);
        Due.due("save over it", desk.save(0), 0);
        desk.endShift();
        Due.due("what was saved last", desk.restore(0), 0);
        Due.due("save(2)", desk.save(2), HandoverDesk.BAD_VALUE);
        Due.due("save(-1)", desk.save(-1), HandoverDesk.BAD_VALUE);
        Due.due("restore(2)", desk.restore(2), HandoverDesk.BAD_VALUE);
        Due.due("restore(-1)", desk.restore(-1), HandoverDesk.BAD_VALUE);
        Due.due("restore(MIN)", desk.restore(Integer.MIN_VALUE), HandoverDesk.BAD_VALUE);
    }

    private static void slotsAreApart() {
        HandoverDesk desk = new HandoverDesk();
        Due.due("save(1)", desk.save(1), 0);
        Due.due("nothing in the other one", desk.restore(0), HandoverDesk.NOT_POSSIBLE);
        desk.open();
        desk.save(0);
        desk.undo();
        Due.due("slots are not undone", desk.restore(0), 0);
        Due.due("the topic is back", desk.count(2), 1);
        desk.restore(1);
        Due.due("without it", desk.count(2), 0);
        Due.due("the slot keeps it", desk.restore(0), 0);
        desk.learn(0, 0, 9);
        desk.restore(0);
        Due.due("as it was saved", desk.level(0, 0), 0);
        Due.write(desk, "o;");
        desk.save(1);
        desk.restore(1);
        Due.due("the pad is not saved", desk.count(17), 2);
        Due.due("nor the history", desk.count(18), 6);
    }

    public static void main(String[] args) {
        eachChangeIsUndone();
        sixAreKept();
        changesAfterAnUndo();
        recordedWithoutADifference();
        notRecorded();
        saveAndRestore();
        slotsAreApart();
        Due.end();
    }
}
