/** Promise 10: the end of a shift, in its four steps. */
public final class EndShiftTest {
    private static void work() {
        HandoverDesk desk = Due.deskWith(3);
        desk.set(HandoverDesk.DECAY, 0);
        desk.minutes(0, 0);
        desk.learn(0, 0, 91);
        desk.learn(0, 1, 93);
        desk.learn(0, 2, 50);
        desk.turn(2);
        desk.endShift();
        Due.levels("work, not above 100, not for closed ones", desk, 0, 99, 100, 50);
        Due.levels("only that of the worker on duty", desk, 1, 0, 0, 0);
        desk.set(HandoverDesk.WORK, 0);
        desk.minutes(1, 0);
        desk.endShift();
        Due.levels("no work", desk, 1, 0, 0, 0);
    }

    private static void theChecklistFirst() {
        HandoverDesk desk = Due.deskWith(3);
        desk.learn(0, 0, 100);
        desk.learn(0, 1, 60);
        desk.learn(0, 2, 70);
        desk.check(2);
        desk.check(1);
        desk.minutes(0, 11);
        Due.due("the second one is missed", desk.endShift(), 1);
        Due.levels("ten minutes make 2 known, one goes to 1", desk, 1, 0, 5, 50);
        Due.levels("decay, rounded up", desk, 0, 90, 61, 70);
        Due.due("count(4)", desk.count(4), 1);
        Due.due("ofTopic(1, 4)", desk.ofTopic(1, 4), 1);
        Due.due("ofTopic(2, 4)", desk.ofTopic(2, 4), 0);
        Due.due("a topic outside the checklist is not missed", desk.ofTopic(0, 4), 0);
    }

    private static void notAboveTheGiver() {
        HandoverDesk desk = Due.deskWith(2);
        desk.set(HandoverDesk.PASS, 20);
        desk.learn(0, 0, 37);
        desk.learn(0, 1, 12);
        desk.learn(1, 1, 3);
        desk.check(0);
        desk.minutes(0, 5);
        Due.due("it cannot become known", desk.endShift(), 1);
        Due.levels("20, 40, 45, then the other one, then none", desk, 1, 45, 20);
        Due.due("one minute is idle", desk.count(6), 1);
        Due.due("all five were had", desk.count(5), 5);
        Due.due("and paid", desk.count(7), 15);
    }

    private static void theWidestGap() {
        HandoverDesk desk = Due.deskWith(3);
        desk.learn(0, 0, 42);
        desk.learn(0, 1, 52);
        desk.learn(0, 2, 52);
        desk.minutes(0, 3);
        desk.endShift();
        Due.levels("the lowest of several", desk, 1, 0, 10, 5);
        HandoverDesk begun = Due.deskWith(3);
        begun.learn(0, 0, 92);
        begun.learn(1, 0, 70);
        begun.learn(0, 1, 52);
        begun.learn(1, 1, 20);
        begun.learn(0, 2, 22);
        begun.minutes(0, 4);
        begun.endShift();
        Due.levels("the most more, not the most: gaps of 30, 40 and 30", begun, 1, 75, 35, 0);
        HandoverDesk known = Due.deskWith(2);
        known.learn(0, 0, 90);
        known.learn(1, 0, 60);
        known.learn(0, 1, 10);
        known.check(0);
        known.minutes(0, 2);
        known.endShift();
        Due.levels("a known one of the checklist has no right of way", known, 1, 70, 0);
    }

    private static void theLessSkilledGiver() {
        HandoverDesk desk = Due.deskWith(2);
        desk.set(HandoverDesk.WORK, 0);
        desk.learn(0, 0, 20);
        desk.learn(1, 0, 20);
        desk.learn(0, 1, 6);
        desk.check(0);
        desk.minutes(0, 3);
        Due.due("missed", desk.endShift(), 1);
        Due.levels("as much is not less", desk, 1, 20, 6);
        Due.due("idle", desk.count(6), 1);
    }

    private static void closedOnes() {
        HandoverDesk desk = Due.deskWith(3);
        desk.learn(0, 0, 80);
        desk.learn(0, 1, 80);
        desk.learn(0, 2, 40);
        desk.check(0);
        desk.check(1);
        desk.turn(0);
        desk.minutes(0, 10);
        Due.due("a closed one is no miss", desk.endShift(), 0);
        Due.levels("it is passed over", desk, 1, 0, 50, 0);
        Due.levels("it decays, but has no work", desk, 0, 72, 79, 43);
        Due.due("it was not begun with", desk.ofTopic(0, 5), 0);
        Due.due("an open one was", desk.ofTopic(1, 5), 1);
        Due.due("with known", desk.ofTopic(1, 6), 1);
        Due.due("another one was, too", desk.ofTopic(2, 5), 1);
        Due.due("without", desk.ofTopic(2, 6), 0);
        desk.turn(1);
        desk.turn(2);
        desk.minutes(1, 60);
        desk.endShift();
        Due.due("nothing is passed on if all are closed", desk.count(6), 60);
    }

    private static void theSameWorkerGoesOn() {
        HandoverDesk desk = Due.deskWith(1);
        desk.roster(1, 0);
        desk.learn(0, 0, 41);
        desk.learn(3, 0, 11);
        desk.check(0);
        Due.due("missed without a handover", desk.endShift(), 1);
        Due.levels("work, no decay", desk, 0, 49);
        Due.levels("decay of the others", desk, 3, 9);
        Due.due("no minutes", desk.count(5), 0);
        Due.due("none idle", desk.count(6), 0);
        Due.due("no cost", desk.count(7), 0);
        Due.due("the next shift", desk.count(0), 1);
        Due.due("his again", desk.count(1), 0);
    }

    private static void decayIsRoundedUp() {
        int[][] rows = {{10, 1, 0}, {10, 10, 9}, {10, 11, 9}, {0, 77, 77}, {50, 99, 49}, {50, 1, 0}, {1, 100, 99}, {1, 99, 98},
            {33, 100, 67}, {7, 43, 39}, {10, 0, 0}};
        for (int[] row : rows) {
            HandoverDesk desk = Due.deskWith(1);
            desk.set(HandoverDesk.DECAY, row[0]);
            if (row[1] > 0) {
                desk.learn(4, 0, row[1]);
            }
            desk.endShift();
            Due.due(row[0] + " hundredths of " + row[1], desk.level(4, 0), row[2]);
        }
    }

    private static void aroundTheRoster() {
        HandoverDesk desk = Due.deskWith(1);
        desk.roster(11, 5);
        desk.minutes(11, 7);
        desk.set(HandoverDesk.COST, 99);
        for (int shift = 0; shift < 11; shift++) {
            Due.due("on duty", desk.count(1), shift % 3);
            desk.endShift();
        }
        Due.due("count(0)", desk.count(0), 11);
        Due.due("count(1)", desk.count(1), 5);
        Due.due("count(5)", desk.count(5), 110);
        desk.endShift();
        Due.due("the thirteenth shift", desk.count(0), 12);
        Due.due("is that of the place 0", desk.count(1), 0);
        Due.due("after the minutes of the place 11", desk.count(5), 117);
        Due.due("which cost", desk.count(7), 117 * 99);
        desk.minutes(0, 60);
        desk.endShift();
        Due.due("the place 0 again", desk.count(5), 177);
    }

    private static void missesAndBeginnings() {
        HandoverDesk desk = Due.deskWith(2);
        desk.set(HandoverDesk.WORK, 0);
        desk.set(HandoverDesk.DECAY, 0);
        for (int place = 0; place < 12; place++) {
            desk.minutes(place, 0);
        }
        desk.learn(2, 1, 50);
        desk.check(1);
        desk.check(0);
        int[] misses = {2, 1, 2, 2, 1};
        for (int missed : misses) {
            Due.due("endShift()", desk.endShift(), missed);
        }
        Due.due("count(4)", desk.count(4), 8);
        Due.due("ofTopic(0, 4)", desk.ofTopic(0, 4), 5);
        Due.due("ofTopic(1, 4)", desk.ofTopic(1, 4), 3);
        Due.due("ofTopic(1, 5)", desk.ofTopic(1, 5), 5);
        Due.due("ofTopic(1, 6)", desk.ofTopic(1, 6), 2);
        Due.due("ofTopic(0, 6)", desk.ofTopic(0, 6), 0);
        Due.due("a level just below KNOWN", desk.set(HandoverDesk.KNOWN, 51), 50);
        desk.endShift();
        desk.endShift();
        Due.due("missed at it", desk.endShift(), 2);
    }

    public static void main(String[] args) {
        work();
        theChecklistFirst();
        notAboveTheGiver();
        theWidestGap();
        theLessSkilledGiver();
        closedOnes();
        theSameWorkerGoesOn();
        decayIsRoundedUp();
        aroundTheRoster();
        missesAndBeginnings();
        Due.end();
    }
}
