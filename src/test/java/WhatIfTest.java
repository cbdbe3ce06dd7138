/** Promises 19 to 21: what if; nothing changes. */
public final class WhatIfTest {
    private static void leastMinutes() {
        HandoverDesk desk = Due.deskWith(2);
        desk.set(HandoverDesk.PASS, 1);
        desk.set(HandoverDesk.WORK, 0);
        desk.learn(0, 0, 100);
        Due.due("nothing is on the checklist", desk.leastMinutes(), 0);
        desk.check(0);
        Due.due("as many as KNOWN", desk.leastMinutes(), 50);
        desk.set(HandoverDesk.KNOWN, 60);
        Due.due("60 is had", desk.leastMinutes(), 60);
        desk.set(HandoverDesk.KNOWN, 61);
        Due.due("61 is not", desk.leastMinutes(), HandoverDesk.NONE);
        desk.set(HandoverDesk.PASS, 20);
        Due.due("20, 40, 60, 80", desk.leastMinutes(), 4);
        desk.learn(0, 1, 100);
        desk.check(1);
        Due.due("for both", desk.leastMinutes(), 8);
        desk.turn(0);
        Due.due("closed ones need none", desk.leastMinutes(), 4);
        desk.learn(1, 1, 61);
        Due.due("none is needed", desk.leastMinutes(), 0);
        desk.roster(1, 0);
        Due.due("the same worker, who knows it", desk.leastMinutes(), 0);
        desk.roster(0, 3);
        desk.roster(1, 3);
        Due.due("the same worker, who does not", desk.leastMinutes(), HandoverDesk.NONE);
        desk.set(HandoverDesk.WORK, 20);
        desk.learn(3, 1, 41);
        Due.due("the same worker, whom the work helps", desk.leastMinutes(), 0);
    }

    private static void leastMinutesIsOfThisShift() {
        HandoverDesk desk = Due.deskWith(1);
        desk.set(HandoverDesk.DECAY, 0);
        desk.minutes(0, 0);
        desk.learn(0, 0, 100);
        desk.check(0);
        Due.due("whatever was bought", desk.leastMinutes(), 10);
        Due.due("what was bought stays", desk.place(0, 1), 0);
        desk.endShift();
        desk.learn(1, 0, 47);
        Due.due("work first, then 11 minutes to 55", desk.leastMinutes(), 10);
        desk.set(HandoverDesk.KNOWN, 56);
        Due.due("no level above the giver's", desk.leastMinutes(), HandoverDesk.NONE);
    }

    private static HandoverDesk fading() {
        HandoverDesk desk = Due.deskWith(10);
        desk.set(HandoverDesk.WORK, 0);
        for (int place = 0; place < 12; place++) {
            desk.minutes(place, 0);
        }
        for (int topic = 0; topic < 9; topic++) {
            desk.learn(4, topic, 60 + 5 * topic);
        }
        return desk;
    }

    private static void lostIn() {
        HandoverDesk desk = fading();
        desk.turn(8);
        // 60 54 48 | 65 58 52 46 | 70 63 56 50 45 | 75 67 60 54 48 | 80 72 64 57 51 45 | 85 76 68 61 54 48 | 90 81 72 64 57 51 45 | 95 85 76 68 61 54 48
        Due.due("lostIn(1)", desk.lostIn(1), 0b1000000000);
        Due.due("lostIn(2)", desk.lostIn(2), 0b1000000001);
        Due.due("lostIn(3)", desk.lostIn(3), 0b1000000011);
        Due.due("lostIn(4)", desk.lostIn(4), 0b1000001111);
        Due.due("lostIn(5)", desk.lostIn(5), 0b1000111111);
        Due.due("lostIn(6)", desk.lostIn(6), 0b1011111111);
        Due.due("lostIn(50): a closed one is not lost", desk.lostIn(50), 0b1011111111);
        desk.set(HandoverDesk.DECAY, 0);
        Due.due("without decay", desk.lostIn(50), 0b1000000000);
        Due.due("lostIn(0)", desk.lostIn(0), HandoverDesk.BAD_VALUE);
        Due.due("lostIn(51)", desk.lostIn(51), HandoverDesk.BAD_VALUE);
        Due.due("lostIn(MIN)", desk.lostIn(Integer.MIN_VALUE), HandoverDesk.BAD_VALUE);
        HandoverDesk passed = Due.deskWith(1);
        passed.learn(0, 0, 100);
        passed.minutes(0, 60);
        passed.minutes(1, 60);
        passed.minutes(2, 60);
        Due.due("what is passed on is not lost", passed.lostIn(3), 0);
    }

    private static HandoverDesk aChain() {
        HandoverDesk desk = Due.deskWith(1);
        desk.set(HandoverDesk.PASS, 20);
        desk.set(HandoverDesk.WORK, 0);
        desk.set(HandoverDesk.DECAY, 0);
        desk.learn(0, 0, 100);
        desk.check(0);
        return desk;
    }

    private static void split(HandoverDesk desk, int total, int... best) {
        for (int what = 0; what <= 3; what++) {
            Due.due("bestSplit(" + total + ", " + what + ")", desk.bestSplit(total, what), best[what]);
        }
    }

    private static void bestSplit() {
        HandoverDesk desk = aChain();
        split(desk, 0, 2, 0, 0, 0);
        split(desk, 2, 2, 0, 0, 2);
        // Three minutes make the next one know it; the one after that has to have them, too, and the third one knows it.
        split(desk, 3, 1, 3, 0, 0);
        split(desk, 5, 1, 3, 0, 2);
        split(desk, 6, 0, 3, 3, 0);
        split(desk, 40, 0, 3, 3, 34);
        desk.roster(2, 1);
        split(desk, 5, 0, 3, 0, 2);
        desk.roster(3, 4);
        split(desk, 5, 1, 3, 0, 2);
        split(desk, 6, 0, 3, 0, 3);
        Due.due("bestSplit(-1, 0)", desk.bestSplit(-1, 0), HandoverDesk.BAD_VALUE);
        Due.due("bestSplit(41, 0)", desk.bestSplit(41, 0), HandoverDesk.BAD_VALUE);
        Due.due("bestSplit(0, -1)", desk.bestSplit(0, -1), HandoverDesk.BAD_VALUE);
        Due.due("bestSplit(0, 4)", desk.bestSplit(0, 4), HandoverDesk.BAD_VALUE);
        Due.due("bestSplit(MAX, MIN)", desk.bestSplit(Integer.MAX_VALUE, Integer.MIN_VALUE), HandoverDesk.BAD_VALUE);
    }

    private static void bestSplitAroundTheRoster() {
        HandoverDesk desk = aChain();
        for (int shift = 0; shift < 11; shift++) {
            desk.roster(shift + 1, 5);
            desk.endShift();
        }
        desk.roster(0, 3);
        desk.roster(1, 3);
        desk.learn(5, 0, 100);
        split(desk, 10, 0, 3, 0, 7);
    }

    private static void nothingChanges() {
        HandoverDesk desk = fading();
        desk.check(3);
        desk.check(0);
        desk.endShift();
        String before = Due.told(desk);
        int undoable = desk.count(18);
        desk.leastMinutes();
        desk.lostIn(20);
        desk.bestSplit(40, 0);
        Due.holds("what-ifs change nothing", before.equals(Due.told(desk)));
        Due.due("nor the history", desk.count(18), undoable);
    }

    public static void main(String[] args) {
        leastMinutes();
        leastMinutesIsOfThisShift();
        lostIn();
        bestSplit();
        bestSplitAroundTheRoster();
        nothingChanges();
        Due.end();
    }
}
