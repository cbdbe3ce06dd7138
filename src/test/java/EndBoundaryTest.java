/** The sentences of "The end of a shift" and of promise 10 that name a boundary case, each with a test of its own. */
public final class EndBoundaryTest {
    /** Ends the shift 0 with so many overlap minutes: the worker 0 hands over to the worker 1. */
    private static int handOver(HandoverDesk desk, int minutes) {
        desk.minutes(0, minutes);
        return desk.endShift();
    }

    // ---- 1: work

    private static void workUpToAHundred() {
        HandoverDesk desk = Due.calmDesk(7);
        Due.teach(desk, 0, 0, 91, 92, 93, 99, 100, 40);
        Due.teach(desk, 1, 0, 0, 0, 0, 0, 0, 40);
        Due.teach(desk, 5, 10, 91, 92, 93, 99, 100, 40);
        desk.turn(6);
        desk.set(HandoverDesk.WORK, 8);
        handOver(desk, 0);
        Due.levels("on duty", desk, 0, 8, 99, 100, 100, 100, 100, 40);
        Due.levels("next on duty", desk, 1, 0, 0, 0, 0, 0, 0, 40);
        Due.levels("not on duty", desk, 5, 10, 91, 92, 93, 99, 100, 40);
    }

    private static void workWithTheMostOfIt() {
        HandoverDesk desk = Due.calmDesk(4);
        Due.teach(desk, 0, 79, 80, 81, 0);
        desk.set(HandoverDesk.WORK, 20);
        handOver(desk, 0);
        Due.levels("on duty", desk, 0, 99, 100, 100, 20);
    }

    private static void workComesBeforeTheMinutes() {
        HandoverDesk desk = Due.calmDesk(1);
        Due.teach(desk, 0, 1);
        desk.set(HandoverDesk.WORK, 8);
        handOver(desk, 2);
        Due.levels("what came by work is passed on", desk, 1, 9);
    }

    private static void workOfAWorkerWhoGoesOn() {
        HandoverDesk desk = Due.calmDesk(1);
        desk.roster(1, 0);
        desk.set(HandoverDesk.WORK, 8);
        desk.endShift();
        Due.levels("on duty before and after", desk, 0, 8);
    }

    // ---- 2: overlap minutes

    private static void had(int minutes, int cost) {
        HandoverDesk desk = Due.calmDesk(1);
        Due.teach(desk, 0, 100);
        desk.set(HandoverDesk.COST, cost);
        handOver(desk, minutes);
        Due.due(minutes + " had", desk.count(5), minutes);
        Due.due(minutes + " at " + cost, desk.count(7), minutes * cost);
        Due.levels(minutes + " passed on", desk, 1, Math.min(100, 5 * minutes));
        Due.due("idle of " + minutes, desk.count(6), Math.max(0, minutes - 20));
    }

    private static void minutesAreHadOneAfterTheOther() {
        had(0, 3);
        had(1, 3);
        had(19, 3);
        had(20, 3);
        had(21, 3);
        had(60, 99);
        had(60, 0);
        HandoverDesk desk = new HandoverDesk();
        handOver(desk, 7);
        Due.due("idle ones cost, too", desk.count(7), 21);
        desk.set(HandoverDesk.COST, 10);
        desk.endShift();
        Due.due("each by the cost of its time", desk.count(7), 121);
    }

    private static void onlyTheMinutesOfThisShift() {
        HandoverDesk desk = Due.calmDesk(1);
        Due.teach(desk, 0, 100);
        desk.minutes(1, 60);
        desk.minutes(11, 60);
        handOver(desk, 2);
        Due.due("had", desk.count(5), 2);
        Due.levels("passed on", desk, 1, 10);
    }

    private static void theChecklistInItsOrder() {
        HandoverDesk desk = Due.calmDesk(3);
        Due.teach(desk, 0, 100, 100, 30);
        desk.check(2);
        desk.check(0);
        handOver(desk, 1);
        Due.levels("the first one, not the lowest, not the widest gap", desk, 1, 0, 0, 5);
    }

    private static void closedOnesOfTheChecklist() {
        HandoverDesk desk = Due.calmDesk(3);
        Due.teach(desk, 0, 100, 100, 30);
        desk.check(0);
        desk.check(2);
        desk.turn(0);
        handOver(desk, 1);
        Due.levels("the first open one", desk, 1, 0, 0, 5);
    }

    private static void thatTheNextWorkerDoesNotKnow() {
        HandoverDesk below = Due.calmDesk(2);
        Due.teach(below, 0, 100, 100);
        Due.teach(below, 1, 49, 0);
        below.check(0);
        handOver(below, 1);
        Due.levels("one below KNOWN", below, 1, 54, 0);
        HandoverDesk at = Due.calmDesk(2);
        Due.teach(at, 0, 100, 100);
        Due.teach(at, 1, 50, 0);
        at.check(0);
        handOver(at, 1);
        Due.levels("at KNOWN", at, 1, 50, 5);
    }

    private static void withALowerLevelThanTheWorkerOnDuty() {
        HandoverDesk equal = Due.calmDesk(2);
        Due.teach(equal, 0, 20, 3);
        Due.teach(equal, 1, 20, 0);
        equal.check(0);
        handOver(equal, 1);
        Due.levels("as much", equal, 1, 20, 3);
        HandoverDesk less = Due.calmDesk(2);
        Due.teach(less, 0, 20, 3);
        Due.teach(less, 1, 19, 0);
        less.check(0);
        handOver(less, 1);
        Due.levels("one less", less, 1, 20, 0);
        HandoverDesk more = Due.calmDesk(2);
        Due.teach(more, 0, 20, 3);
        Due.teach(more, 1, 21, 0);
        more.check(0);
        handOver(more, 1);
        Due.levels("more", more, 1, 21, 3);
    }

    private static void theFirstOneOfTheChecklistInEachMinute() {
        HandoverDesk desk = Due.calmDesk(4);
        Due.teach(desk, 0, 100, 33, 100, 100);
        desk.check(1);
        desk.check(2);
        desk.check(0);
        // 7 minutes bring the topic 1 to 33, 10 the topic 2 to 50, and then 3 are left for the topic 0.
        handOver(desk, 20);
        Due.levels("7, 10 and 3 minutes", desk, 1, 15, 33, 50, 0);
    }

    private static void whatComesAfterTheChecklist() {
        HandoverDesk desk = Due.calmDesk(3);
        Due.teach(desk, 0, 60, 100, 90);
        desk.check(0);
        // 10 minutes make the topic 0 known; 2 narrow the gap of the topic 1 to that of the topic 2.
        handOver(desk, 14);
        Due.levels("10, 3 and 1 minutes", desk, 1, 50, 15, 5);
    }

    private static void theMostMore() {
        HandoverDesk desk = Due.calmDesk(4);
        Due.teach(desk, 0, 100, 50, 40, 40);
        Due.teach(desk, 1, 80, 10, 0, 0);
        handOver(desk, 1);
        Due.levels("of three with 40 more the lowest one", desk, 1, 80, 15, 0, 0);
    }

    private static void ofSeveralTheLowestOneEachTime() {
        HandoverDesk desk = Due.calmDesk(3);
        Due.teach(desk, 0, 30, 30, 30);
        handOver(desk, 4);
        Due.levels("in turn", desk, 1, 10, 5, 5);
        HandoverDesk all = Due.calmDesk(10);
        Due.teach(all, 0, 1, 1, 1, 1, 1, 1, 1, 1, 1, 2);
        handOver(all, 2);
        Due.levels("the last one, then the first one", all, 1, 1, 0, 0, 0, 0, 0, 0, 0, 0, 2);
    }

    private static void moreThanZero() {
        HandoverDesk desk = Due.calmDesk(3);
        Due.teach(desk, 0, 20, 20, 20);
        Due.teach(desk, 1, 20, 21, 19);
        handOver(desk, 2);
        Due.levels("one more is enough, as much and less are not", desk, 1, 20, 21, 20);
        Due.due("then none is left", desk.count(6), 1);
    }

    private static void ofAllOpenTopics() {
        HandoverDesk desk = Due.calmDesk(3);
        Due.teach(desk, 0, 100, 20, 100);
        Due.teach(desk, 1, 70, 0, 0);
        desk.check(0);
        desk.turn(2);
        handOver(desk, 1);
        Due.levels("a known one of the checklist, too, but no closed one", desk, 1, 75, 0, 0);
    }

    private static void greaterByPass() {
        HandoverDesk desk = Due.calmDesk(1);
        Due.teach(desk, 0, 16);
        Due.teach(desk, 1, 10);
        handOver(desk, 1);
        Due.levels("5 of 6", desk, 1, 15);
        HandoverDesk equal = Due.calmDesk(1);
        Due.teach(equal, 0, 15);
        Due.teach(equal, 1, 10);
        handOver(equal, 1);
        Due.levels("5 of 5", equal, 1, 15);
        HandoverDesk less = Due.calmDesk(1);
        Due.teach(less, 0, 14);
        Due.teach(less, 1, 10);
        handOver(less, 1);
        Due.levels("not above that of the worker on duty", less, 1, 14);
        Due.levels("who keeps it", less, 0, 14);
        HandoverDesk listed = Due.calmDesk(1);
        Due.teach(listed, 0, 14);
        Due.teach(listed, 1, 10);
        listed.check(0);
        handOver(listed, 1);
        Due.levels("nor by the checklist", listed, 1, 14);
    }

    private static void idle(String why, HandoverDesk desk, int minutes, int idle) {
        handOver(desk, minutes);
        Due.due(why + ": idle", desk.count(6), idle);
        Due.due(why + ": had", desk.count(5), minutes);
    }

    private static void idleMinutes() {
        idle("no topics", new HandoverDesk(), 60, 60);
        idle("nobody knows anything", Due.calmDesk(10), 60, 60);
        HandoverDesk closed = Due.calmDesk(1);
        Due.teach(closed, 0, 100);
        closed.turn(0);
        idle("closed", closed, 9, 9);
        HandoverDesk rest = Due.calmDesk(1);
        Due.teach(rest, 0, 11);
        idle("three minutes are enough", rest, 4, 1);
        HandoverDesk enough = Due.calmDesk(1);
        Due.teach(enough, 0, 11);
        idle("three minutes", enough, 3, 0);
        enough.minutes(1, 60);
        enough.endShift();
        Due.due("57 idle ones at the next end", enough.count(6), 57);
        enough.endShift();
        Due.due("and all ten at the one after it", enough.count(6), 67);
    }

    private static void theSameWorkerGoesOn() {
        HandoverDesk desk = Due.calmDesk(1);
        desk.roster(1, 0);
        handOver(desk, 60);
        Due.due("had", desk.count(5), 0);
        Due.due("idle", desk.count(6), 0);
        Due.due("cost", desk.count(7), 0);
        Due.due("the next shift", desk.count(0), 1);
        desk.endShift();
        Due.due("had at the next end", desk.count(5), 10);
    }

    private static void theSameWorkerGoesOnAroundTheRoster() {
        HandoverDesk desk = new HandoverDesk();
        desk.roster(11, 0);
        for (int shift = 0; shift < 11; shift++) {
            desk.endShift();
        }
        Due.due("eleven handovers", desk.count(5), 110);
        desk.endShift();
        Due.due("none from the place 11 to the place 0", desk.count(5), 110);
        Due.due("the shift 12", desk.count(0), 12);
    }

    // ---- 3: the next shift, decay

    private static void theNextShiftBegins() {
        HandoverDesk desk = new HandoverDesk();
        desk.endShift();
        Due.due("count(0)", desk.count(0), 1);
        Due.due("count(1)", desk.count(1), 1);
    }

    private static void decayIsRoundedUp() {
        int[][] rows = {{10, 0, 0}, {10, 1, 0}, {10, 9, 8}, {10, 10, 9}, {10, 11, 9}, {10, 20, 18}, {10, 99, 89}, {10, 100, 90},
            {0, 100, 100}, {1, 1, 0}, {1, 99, 98}, {1, 100, 99}, {50, 1, 0}, {50, 2, 1}, {50, 3, 1}, {50, 99, 49}, {50, 100, 50},
            {49, 100, 51}, {3, 34, 32}, {3, 33, 32}, {33, 3, 2}, {34, 3, 1}};
        for (int[] row : rows) {
            HandoverDesk desk = Due.calmDesk(1);
            Due.teach(desk, 5, row[1]);
            desk.set(HandoverDesk.DECAY, row[0]);
            desk.endShift();
            Due.levels(row[0] + " hundredths of " + row[1], desk, 5, row[2]);
        }
    }

    private static void allWhoAreNotOnDutyNow() {
        HandoverDesk desk = Due.calmDesk(2);
        for (int worker = 0; worker < 6; worker++) {
            Due.teach(desk, worker, 50, 50);
        }
        desk.turn(1);
        desk.set(HandoverDesk.DECAY, 10);
        desk.endShift();
        for (int worker = 0; worker < 6; worker++) {
            int left = worker == 1 ? 50 : 45;
            Due.levels("open and closed", desk, worker, left, left);
        }
        desk.roster(2, 1);
        desk.endShift();
        for (int worker = 0; worker < 6; worker++) {
            int left = worker == 1 ? 50 : 40;
            Due.levels("the worker who goes on keeps all", desk, worker, left, left);
        }
    }

    private static void decayComesAfterTheMinutes() {
        HandoverDesk desk = Due.calmDesk(1);
        Due.teach(desk, 0, 10);
        desk.set(HandoverDesk.DECAY, 50);
        handOver(desk, 2);
        Due.levels("all of it was passed on", desk, 1, 10);
        Due.levels("half of it is left", desk, 0, 5);
    }

    // ---- 4: misses, beginnings

    private static void misses() {
        HandoverDesk desk = Due.calmDesk(5);
        Due.teach(desk, 1, 49, 50, 51, 0, 0);
        Due.teach(desk, 0, 0, 0, 0, 100, 0);
        for (int topic = 0; topic < 4; topic++) {
            desk.check(topic);
        }
        desk.turn(3);
        Due.due("only the one below KNOWN", handOver(desk, 0), 1);
        int[] missed = {1, 0, 0, 0, 0};
        for (int topic = 0; topic < 5; topic++) {
            Due.due("misses of " + topic, desk.ofTopic(topic, 4), missed[topic]);
        }
        Due.due("count(4)", desk.count(4), 1);
    }

    private static void allAreMissed() {
        HandoverDesk desk = Due.calmDesk(10);
        Due.due("an empty checklist", desk.endShift(), 0);
        for (int topic = 9; topic >= 0; topic--) {
            desk.check(topic);
        }
        Due.due("all ten", desk.endShift(), 10);
        Due.due("all ten again", desk.endShift(), 10);
        Due.due("count(4)", desk.count(4), 20);
        Due.due("ofTopic(9, 4)", desk.ofTopic(9, 4), 2);
        Due.due("ofTopic(0, 4)", desk.ofTopic(0, 4), 2);
    }

    private static void missesOfTheNextWorker() {
        HandoverDesk desk = Due.calmDesk(1);
        Due.teach(desk, 0, 100);
        desk.check(0);
        Due.due("nine minutes bring 45", handOver(desk, 9), 1);
        HandoverDesk enough = Due.calmDesk(1);
        Due.teach(enough, 0, 100);
        enough.check(0);
        Due.due("ten minutes bring 50", handOver(enough, 10), 0);
    }

    private static void missesOfAWorkerWhoGoesOn() {
        HandoverDesk desk = Due.calmDesk(2);
        desk.roster(1, 0);
        Due.teach(desk, 0, 41, 42);
        desk.check(0);
        desk.check(1);
        desk.set(HandoverDesk.WORK, 8);
        Due.due("49 is a miss, 50 is none", desk.endShift(), 1);
        Due.due("ofTopic(0, 4)", desk.ofTopic(0, 4), 1);
    }

    private static void countedOnceAsBegunWith() {
        HandoverDesk desk = Due.calmDesk(4);
        Due.teach(desk, 1, 49, 50, 100, 100);
        desk.turn(3);
        desk.check(1);
        Due.due("never before", desk.ofTopic(1, 5), 0);
        desk.endShift();
        int[] begun = {1, 1, 1, 0};
        int[] known = {0, 1, 1, 0};
        for (int topic = 0; topic < 4; topic++) {
            Due.due("begun with " + topic, desk.ofTopic(topic, 5), begun[topic]);
            Due.due("known " + topic, desk.ofTopic(topic, 6), known[topic]);
        }
        desk.open();
        Due.due("a new one was not begun with", desk.ofTopic(4, 5), 0);
    }

    private static void stepOne() {
        String words = "The levels of the worker on duty for all open topics become greater by WORK, but not above 100.";
        Due.sentence(words, EndBoundaryTest::workUpToAHundred);
        Due.sentence(words, EndBoundaryTest::workWithTheMostOfIt);
        Due.sentence(words, EndBoundaryTest::workComesBeforeTheMinutes);
        Due.sentence(words, EndBoundaryTest::workOfAWorkerWhoGoesOn);
    }

    private static void stepTwo() {
        String minutes = "If the worker of the next shift is another one, the overlap minutes of this shift are had,"
                + " one after the other; each costs COST.";
        Due.sentence(minutes, EndBoundaryTest::minutesAreHadOneAfterTheOther);
        Due.sentence(minutes, EndBoundaryTest::onlyTheMinutesOfThisShift);
        String first = "the first one of the checklist, in its order, that the next worker does not know,";
        Due.sentence(first, EndBoundaryTest::theChecklistInItsOrder);
        Due.sentence("closed topics in it are passed over", EndBoundaryTest::closedOnesOfTheChecklist);
        Due.sentence(first, EndBoundaryTest::thatTheNextWorkerDoesNotKnow);
        Due.sentence("and for which that one has a lower level than the worker on duty",
                EndBoundaryTest::withALowerLevelThanTheWorkerOnDuty);
        Due.sentence("In each of them, a topic is passed on", EndBoundaryTest::theFirstOneOfTheChecklistInEachMinute);
        Due.sentence("if there is none such, of all open topics the one", EndBoundaryTest::whatComesAfterTheChecklist);
        Due.sentence("for which the worker on duty has the most more than the next one", EndBoundaryTest::theMostMore);
        Due.sentence("of several the lowest one", EndBoundaryTest::ofSeveralTheLowestOneEachTime);
        Due.sentence("(more than 0)", EndBoundaryTest::moreThanZero);
        Due.sentence("of all open topics", EndBoundaryTest::ofAllOpenTopics);
        Due.sentence("The level of the next worker for it becomes greater by PASS, but not above that of the worker on duty.",
                EndBoundaryTest::greaterByPass);
        Due.sentence("If there is no topic to pass on, the minute is idle.", EndBoundaryTest::idleMinutes);
        String same = "If the same worker goes on, no minutes are had.";
        Due.sentence(same, EndBoundaryTest::theSameWorkerGoesOn);
        Due.sentence(same, EndBoundaryTest::theSameWorkerGoesOnAroundTheRoster);
    }

    private static void stepThree() {
        Due.sentence("The next shift begins.", EndBoundaryTest::theNextShiftBegins);
        Due.sentence("become less by DECAY hundredths of them (rounded up).", EndBoundaryTest::decayIsRoundedUp);
        String who = "The levels of all workers who are not on duty now, for all topics,";
        Due.sentence(who, EndBoundaryTest::allWhoAreNotOnDutyNow);
        Due.sentence(who, EndBoundaryTest::decayComesAfterTheMinutes);
    }

    private static void stepFour() {
        String miss = "Each open topic of the checklist that the worker on duty does not know now is a miss.";
        Due.sentence(miss, EndBoundaryTest::misses);
        Due.sentence(miss, EndBoundaryTest::missesOfTheNextWorker);
        Due.sentence(miss, EndBoundaryTest::missesOfAWorkerWhoGoesOn);
        Due.sentence("Returns the misses of this handover.", EndBoundaryTest::allAreMissed);
        Due.sentence("Each open topic is counted once as begun with, and, if it is known, once as begun with known.",
                EndBoundaryTest::countedOnceAsBegunWith);
    }

    public static void main(String[] args) {
        stepOne();
        stepTwo();
        stepThree();
        stepFour();
        Due.end();
    }
}
