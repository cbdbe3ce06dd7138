import java.util.function.ToLongFunction;

/** The sentences of promises 26 to 28 that name a boundary case, each with a test of its own. */
public final class UndoBoundaryTest {
    // ---- 26: undo

    /** Nine changes, each of another kind; the desk after so many of them. */
    private static HandoverDesk after(int changes) {
        HandoverDesk desk = new HandoverDesk();
        for (int i = 0; i < changes; i++) {
            switch (i) {
                case 0: desk.open(); break;
                case 1: desk.learn(1, 0, 80); break;
                case 2: desk.check(0); break;
                case 3: desk.call(0); break;
                case 4: desk.set(HandoverDesk.KNOWN, 60); break;
                case 5: desk.roster(1, 5); break;
                case 6: desk.minutes(0, 3); break;
                case 7: desk.endShift(); break;
                default: desk.turn(0); break;
            }
        }
        return desk;
    }

    private static void asItWasBeforeIt() {
        for (int changes = 1; changes <= 9; changes++) {
            HandoverDesk desk = after(changes);
            String before = Due.told(after(changes - 1));
            Due.holds("the change " + changes + " is seen", !before.equals(Due.told(desk)));
            Due.due("undo()", desk.undo(), Math.min(6, changes) - 1);
            Due.holds("the change " + changes + " is undone", before.equals(Due.told(desk)));
        }
    }

    private static void atMostSixStates() {
        for (int changes = 0; changes <= 9; changes++) {
            HandoverDesk desk = after(changes);
            int kept = Math.min(6, changes);
            Due.due("kept after " + changes, desk.count(18), kept);
            for (int left = kept - 1; left >= 0; left--) {
                Due.due("undo() of " + changes, desk.undo(), left);
                Due.due("count(18)", desk.count(18), left);
            }
            Due.due("no more of " + changes, desk.undo(), HandoverDesk.NOT_POSSIBLE);
            Due.holds("the oldest ones are dropped", Due.told(after(changes - kept)).equals(Due.told(desk)));
        }
    }

    private static void eachStateOfTheHistory() {
        for (int undone = 1; undone <= 6; undone++) {
            HandoverDesk desk = after(9);
            for (int i = 0; i < undone; i++) {
                desk.undo();
            }
            Due.holds(undone + " changes back", Due.told(after(9 - undone)).equals(Due.told(desk)));
        }
    }

    private static void theOldestIsDroppedAfterUndos() {
        HandoverDesk desk = after(9);
        desk.undo();
        desk.undo();
        Due.due("four are left", desk.count(18), 4);
        for (int value = 1; value <= 4; value++) {
            desk.set(HandoverDesk.CALL, value);
            Due.due("after " + value + " more", desk.count(18), Math.min(6, 4 + value));
        }
        for (int value = 3; value >= 1; value--) {
            desk.undo();
            Due.due("CALL", desk.count(16), value);
        }
        desk.undo();
        Due.due("CALL at first", desk.count(16), 40);
        Due.holds("seven changes stand", Due.told(after(7)).equals(Due.told(desk)));
        Due.due("the sixth undo()", desk.undo() + desk.undo(), 1);
        Due.holds("five changes stand", Due.told(after(5)).equals(Due.told(desk)));
        Due.due("no more", desk.undo(), HandoverDesk.NOT_POSSIBLE);
    }

    private static void recordsWithoutADifference(String call, ToLongFunction<HandoverDesk> caller, int due) {
        HandoverDesk desk = Due.deskWith(1);
        desk.learn(0, 0, 100);
        desk.save(1);
        String before = Due.told(desk);
        Due.due(call, caller.applyAsLong(desk), due);
        Due.due(call + " is recorded", desk.count(18), 3);
        Due.holds(call + " makes no difference", before.equals(Due.told(desk)));
        Due.due("undo() of " + call, desk.undo(), 2);
        Due.holds(call + " is undone", before.equals(Due.told(desk)));
        desk.undo();
        Due.due("the change before it is undone then", desk.level(0, 0), 0);
    }

    private static void alsoIfNothingIsDifferentThen() {
        recordsWithoutADifference("set(0, 50)", desk -> desk.set(0, 50), 50);
        recordsWithoutADifference("roster(0, 0)", desk -> desk.roster(0, 0), 0);
        recordsWithoutADifference("minutes(0, 10)", desk -> desk.minutes(0, 10), 10);
        recordsWithoutADifference("learn(0, 0, 1)", desk -> desk.learn(0, 0, 1), 100);
        recordsWithoutADifference("restore(1)", desk -> desk.restore(1), 0);
        recordsWithoutADifference("carryOut() of none", desk -> desk.put(Due.packed("x1")) + desk.carryOut(), 2);
        recordsWithoutADifference("carryOut() of some", desk -> desk.put(Due.packed("x0;x0")) + desk.carryOut(), 7);
    }

    private static void eachMethodThatIsAChange() {
        HandoverDesk desk = Due.deskWith(1);
        desk.learn(1, 0, 50);
        desk.save(0);
        desk.undo();
        desk.undo();
        Due.due("none", desk.count(18), 0);
        desk.open();
        Due.due("open", desk.count(18), 1);
        desk.turn(0);
        Due.due("turn", desk.count(18), 2);
        desk.check(0);
        Due.due("check", desk.count(18), 3);
        desk.endShift();
        Due.due("endShift", desk.count(18), 4);
        desk.restore(0);
        Due.due("restore", desk.count(18), 5);
        desk.call(0);
        Due.due("call", desk.count(18), 6);
    }

    private static void noOtherMethodRecords() {
        HandoverDesk desk = Due.deskWith(1);
        desk.put(Due.packed("o;"));
        desk.fault();
        desk.carryOut();
        desk.wipe();
        desk.save(0);
        desk.level(0, 0);
        desk.ofTopic(0, 0);
        desk.checklist(0);
        desk.count(0);
        desk.place(0, 0);
        desk.inOrder();
        desk.share(0);
        desk.mean(0);
        desk.leastMinutes();
        desk.lostIn(9);
        desk.bestSplit(9, 1);
        Due.due("only the topic", desk.count(18), 1);
        Due.due("undo()", desk.undo(), 0);
        Due.due("is no change itself", desk.count(18), 0);
    }

    private static void anErrorRecordsNothing() {
        HandoverDesk desk = Due.deskWith(10);
        for (int i = 0; i < 4; i++) {
            desk.undo();
        }
        int[] errors = {desk.set(6, 0), desk.set(0, 0), desk.roster(0, 6), desk.roster(12, 0), desk.minutes(12, 0),
            desk.minutes(0, 61), desk.turn(6), desk.check(6), desk.learn(0, 6, 1), desk.learn(6, 0, 1), desk.learn(0, 0, 0),
            desk.call(6), desk.call(0), desk.carryOut(), desk.restore(0), desk.restore(2), desk.save(2)};
        for (int error : errors) {
            Due.holds("an error", error < 0);
        }
        Due.due("two are left", desk.count(18), 2);
        Due.due("the sixth topic", desk.undo(), 1);
        Due.due("the fifth topic", desk.undo(), 0);
        Due.due("none is left", desk.undo(), HandoverDesk.NOT_POSSIBLE);
        Due.due("four topics", desk.count(2), 4);
        HandoverDesk full = Due.deskWith(10);
        Due.due("an eleventh one", full.open(), HandoverDesk.TOO_MANY);
        for (int topics = 9; topics >= 4; topics--) {
            full.undo();
            Due.due("six topics can be undone", full.count(2), topics);
        }
    }

    private static void anOrderRecordsNothingByItself() {
        HandoverDesk desk = Due.deskWith(2);
        Due.write(desk, "o;o;o;e;m0=9;k0;x1;e");
        Due.due("carryOut()", desk.carryOut(), 8);
        Due.due("one more", desk.count(18), 3);
        desk.undo();
        Due.holds("all eight are undone", Due.told(Due.deskWith(2)).equals(Due.told(desk)));
        Due.due("undo()", desk.undo(), 1);
        Due.due("then a topic", desk.count(2), 1);
    }

    private static void exceptThePad() {
        HandoverDesk desk = Due.deskWith(1);
        desk.put(Due.packed("o;"));
        desk.undo();
        Due.due("what was put after it stays", desk.count(17), 2);
        desk.put('o');
        desk.carryOut();
        desk.undo();
        Due.due("what was carried out does not come back", desk.count(17), 0);
        Due.due("its topics are undone", desk.count(2), 0);
        Due.due("empty", desk.carryOut(), HandoverDesk.BAD_TEXT);
    }

    private static void exceptTheSlots() {
        HandoverDesk desk = Due.deskWith(1);
        desk.learn(0, 0, 9);
        desk.save(1);
        desk.undo();
        desk.undo();
        Due.due("saved after both", desk.restore(1), 0);
        Due.due("as it was saved", desk.level(0, 0), 9);
        Due.due("undo()", desk.undo(), 0);
        Due.due("the restoring is undone", desk.count(2), 0);
        Due.due("the slot is not", desk.restore(1), 0);
    }

    private static void noneToUndo() {
        HandoverDesk desk = new HandoverDesk();
        Due.due("a new desk", desk.undo(), HandoverDesk.NOT_POSSIBLE);
        desk.open();
        Due.due("the only one", desk.undo(), 0);
        Due.due("undone before", desk.undo(), HandoverDesk.NOT_POSSIBLE);
        Due.due("still", desk.undo(), HandoverDesk.NOT_POSSIBLE);
        Due.due("the number is free again", desk.open(), 0);
        Due.due("and undone again", desk.undo(), 0);
    }

    // ---- 27: save

    private static void slotZeroOrOne() {
        HandoverDesk desk = new HandoverDesk();
        desk.endShift();
        for (int slot : Due.outside(0, 1)) {
            Due.due("save(" + slot + ")", desk.save(slot), HandoverDesk.BAD_VALUE);
            Due.due("restore(" + slot + ")", desk.restore(slot), HandoverDesk.BAD_VALUE);
        }
        Due.due("restore(0)", desk.restore(0), HandoverDesk.NOT_POSSIBLE);
        Due.due("restore(1)", desk.restore(1), HandoverDesk.NOT_POSSIBLE);
        Due.due("save(0)", desk.save(0), 1);
        Due.due("save(1)", desk.save(1), 1);
    }

    private static void theShiftOfNow() {
        HandoverDesk desk = new HandoverDesk();
        for (int shift = 0; shift < 26; shift++) {
            Due.due("save", desk.save(shift % 2), shift);
            desk.endShift();
        }
        Due.due("restore(0)", desk.restore(0), 24);
        Due.due("count(0)", desk.count(0), 24);
        Due.due("restore(1)", desk.restore(1), 25);
        Due.due("count(0) then", desk.count(0), 25);
    }

    private static void overwritesWhatWasSavedThere() {
        HandoverDesk desk = after(2);
        desk.save(0);
        desk.save(1);
        desk.learn(1, 0, 7);
        desk.save(0);
        desk.learn(1, 0, 7);
        desk.restore(0);
        Due.due("what was saved last", desk.level(1, 0), 87);
        desk.restore(1);
        Due.due("the other slot", desk.level(1, 0), 80);
    }

    private static void everythingElseIsSaved() {
        for (int changes = 0; changes <= 9; changes++) {
            HandoverDesk desk = after(changes);
            desk.save(0);
            Due.write(desk, "o;l0.0+100;k0;x0;r0=5;m0=60;e;e");
            desk.carryOut();
            desk.set(HandoverDesk.COST, 99);
            desk.restore(0);
            Due.holds("all of " + changes + " changes is back", Due.told(after(changes)).equals(Due.told(desk)));
        }
    }

    private static void exceptThePadAndTheHistory() {
        HandoverDesk desk = Due.deskWith(2);
        desk.put(Due.packed("o;e"));
        desk.save(0);
        Due.due("save is not recorded", desk.count(18), 2);
        desk.wipe();
        desk.undo();
        desk.undo();
        desk.restore(0);
        Due.due("the pad does not come back", desk.count(17), 0);
        Due.due("nor does the history", desk.count(18), 1);
        desk.put('e');
        desk.restore(0);
        Due.due("the pad does not go either", desk.count(17), 1);
    }

    // ---- 28: restore

    private static void theSlotKeepsIt() {
        HandoverDesk desk = after(4);
        desk.save(1);
        for (int times = 0; times < 3; times++) {
            Due.due("restore(1)", desk.restore(1), 0);
            Due.due("as it was saved", desk.level(0, 0), 40);
            desk.learn(0, 0, 9);
            desk.check(0);
            desk.endShift();
        }
        desk.restore(1);
        Due.holds("all is as it was saved", Due.told(after(4)).equals(Due.told(desk)));
    }

    private static void restoringIsAChange() {
        HandoverDesk desk = after(3);
        desk.save(0);
        desk.endShift();
        String before = Due.told(desk);
        Due.due("restore(0)", desk.restore(0), 0);
        Due.due("recorded", desk.count(18), 5);
        Due.due("undo()", desk.undo(), 4);
        Due.holds("as it was before it", before.equals(Due.told(desk)));
        for (int times = 0; times < 9; times++) {
            desk.restore(0);
        }
        Due.due("six are kept", desk.count(18), 6);
    }

    private static void nothingWasSavedInIt() {
        for (int slot = 0; slot <= 1; slot++) {
            HandoverDesk desk = Due.deskWith(1);
            Due.due("nothing in any", desk.restore(slot), HandoverDesk.NOT_POSSIBLE);
            desk.save(1 - slot);
            Due.due("nothing in this one", desk.restore(slot), HandoverDesk.NOT_POSSIBLE);
            Due.due("no change", desk.count(18), 1);
            Due.due("the other one", desk.restore(1 - slot), 0);
            desk.save(slot);
            Due.due("now in this one, too", desk.restore(slot), 0);
        }
    }

    private static void promiseTwentySix() {
        Due.sentence("everything except the pad, the slots and the history is as it was before it.",
                UndoBoundaryTest::asItWasBeforeIt);
        Due.sentence("A history of at most 6 states is kept:", UndoBoundaryTest::atMostSixStates);
        Due.sentence("records the state before it", UndoBoundaryTest::eachStateOfTheHistory);
        Due.sentence("when one more is recorded, the oldest one is dropped.", UndoBoundaryTest::theOldestIsDroppedAfterUndos);
        Due.sentence("(also if nothing is different then)", UndoBoundaryTest::alsoIfNothingIsDifferentThen);
        Due.sentence("each method that is a change, and returns no error,", UndoBoundaryTest::eachMethodThatIsAChange);
        Due.sentence("each method that is a change,", UndoBoundaryTest::noOtherMethodRecords);
        Due.sentence("and returns no error,", UndoBoundaryTest::anErrorRecordsNothing);
        Due.sentence("An order of a text records nothing by itself.", UndoBoundaryTest::anOrderRecordsNothingByItself);
        Due.sentence("except the pad, the slots and the history", UndoBoundaryTest::exceptThePad);
        Due.sentence("except the pad, the slots and the history", UndoBoundaryTest::exceptTheSlots);
        Due.sentence("Returns how many changes can be undone then; NOT_POSSIBLE if there is none.", UndoBoundaryTest::noneToUndo);
    }

    private static void promisesTwentySevenAndTwentyEight() {
        Due.sentence("- `slot`: 0 or 1", UndoBoundaryTest::slotZeroOrOne);
        Due.sentence("Returns the shift of now; BAD_VALUE if there is no such slot.", UndoBoundaryTest::theShiftOfNow);
        Due.sentence("and overwrites what was saved there.", UndoBoundaryTest::overwritesWhatWasSavedThere);
        String saves = "Saves everything except the pad, the history and the slots in a slot,";
        Due.sentence(saves, UndoBoundaryTest::everythingElseIsSaved);
        Due.sentence(saves, UndoBoundaryTest::exceptThePadAndTheHistory);
        Due.sentence("Restores what was saved last in a slot, which keeps it.", UndoBoundaryTest::theSlotKeepsIt);
        Due.sentence("This is a change.", UndoBoundaryTest::restoringIsAChange);
        Due.sentence("NOT_POSSIBLE if nothing was saved in it.", UndoBoundaryTest::nothingWasSavedInIt);
    }

    public static void main(String[] args) {
        promiseTwentySix();
        promisesTwentySevenAndTwentyEight();
        Due.end();
    }
}
