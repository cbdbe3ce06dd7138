/** The sentences of promises 1 to 9 that name a boundary case, each with a test of its own. */
public final class ChangesBoundaryTest {
    // ---- 1: a new object

    private static void withoutTopics() {
        HandoverDesk desk = new HandoverDesk();
        Due.due("topics", desk.count(2), 0);
        Due.due("open ones", desk.count(3), 0);
        Due.due("turn(0)", desk.turn(0), HandoverDesk.NO_SUCH);
        Due.due("check(0)", desk.check(0), HandoverDesk.NO_SUCH);
        Due.due("learn(0, 0, 1)", desk.learn(0, 0, 1), HandoverDesk.NO_SUCH);
        Due.due("call(0)", desk.call(0), HandoverDesk.NO_SUCH);
        Due.due("level(0, 0)", desk.level(0, 0), HandoverDesk.NO_SUCH);
        Due.due("ofTopic(0, 0)", desk.ofTopic(0, 0), HandoverDesk.NO_SUCH);
        Due.due("share(0)", desk.share(0), HandoverDesk.NO_SUCH);
        Due.due("mean(0)", desk.mean(0), 0);
        Due.due("checklist(0)", desk.checklist(0), HandoverDesk.NO_SUCH);
        Due.due("inOrder()", desk.inOrder(), 0);
        Due.due("count(9)", desk.count(9), 0);
        Due.due("count(10)", desk.count(10), 0);
        Due.due("leastMinutes()", desk.leastMinutes(), 0);
        Due.due("lostIn(50)", desk.lostIn(50), 0);
        Due.due("bestSplit(40, 0)", desk.bestSplit(40, 0), 0);
        Due.due("undo()", desk.undo(), HandoverDesk.NOT_POSSIBLE);
        Due.due("endShift()", desk.endShift(), 0);
    }

    private static void eachDeskIsNew() {
        HandoverDesk used = Due.deskWith(3);
        used.set(HandoverDesk.KNOWN, 1);
        used.minutes(0, 60);
        used.save(0);
        used.put('o');
        HandoverDesk desk = new HandoverDesk();
        Due.due("topics", desk.count(2), 0);
        Due.due("KNOWN", desk.count(11), 50);
        Due.due("minutes", desk.place(0, 1), 10);
        Due.due("the pad", desk.count(17), 0);
        Due.due("the history", desk.count(18), 0);
        Due.due("the slot", desk.restore(0), HandoverDesk.NOT_POSSIBLE);
    }

    // ---- 2: set

    private static void thePreviousValue() {
        HandoverDesk desk = new HandoverDesk();
        Due.due("the first one", desk.set(HandoverDesk.CALL, 999), 40);
        Due.due("the one set", desk.set(HandoverDesk.CALL, 0), 999);
        Due.due("0", desk.set(HandoverDesk.CALL, 0), 0);
        Due.due("the same one", desk.set(HandoverDesk.CALL, 41), 0);
        Due.due("the others stay", desk.count(15), 3);
    }

    private static void noSuchSetting() {
        HandoverDesk desk = new HandoverDesk();
        for (int setting : Due.outside(0, 5)) {
            Due.due("set(" + setting + ", 10)", desk.set(setting, 10), HandoverDesk.BAD_VALUE);
        }
        Due.due("set(5, 10)", desk.set(5, 10), 40);
        Due.due("set(0, 10)", desk.set(0, 10), 50);
    }

    private static void aValueOutOfItsOwnRange() {
        HandoverDesk desk = new HandoverDesk();
        int[] least = {1, 1, 0, 0, 0, 0};
        int[] most = {100, 20, 50, 20, 99, 999};
        for (int setting = 0; setting < 6; setting++) {
            for (int value : Due.outside(least[setting], most[setting])) {
                Due.due("set(" + setting + ", " + value + ")", desk.set(setting, value), HandoverDesk.BAD_VALUE);
            }
        }
        Due.due("nothing was recorded", desk.count(18), 0);
    }

    // ---- 3: roster

    private static void anotherWorkerIsOnDutyThen() {
        HandoverDesk desk = Due.deskWith(1);
        Due.teach(desk, 5, 60);
        Due.due("away", desk.ofTopic(0, 1), 1);
        Due.due("roster(0, 5)", desk.roster(0, 5), 0);
        Due.due("on duty", desk.count(1), 5);
        Due.due("known", desk.ofTopic(0, 1), 0);
        desk.roster(1, 3);
        Due.due("another place is not that of now", desk.count(1), 5);
        desk.endShift();
        Due.due("but that of the next shift", desk.count(1), 3);
        Due.due("roster(1, 4)", desk.roster(1, 4), 3);
        Due.due("now it is that of now", desk.count(1), 4);
    }

    private static void theOneOnDutyAfterARoundOfTheRoster() {
        HandoverDesk desk = new HandoverDesk();
        for (int shift = 0; shift < 23; shift++) {
            desk.endShift();
        }
        Due.due("roster(11, 4)", desk.roster(11, 4), 2);
        Due.due("on duty in the shift 23", desk.count(1), 4);
        desk.endShift();
        Due.due("roster(0, 3)", desk.roster(0, 3), 0);
        Due.due("on duty in the shift 24", desk.count(1), 3);
    }

    private static void thePreviousWorker() {
        HandoverDesk desk = new HandoverDesk();
        for (int place = 0; place < 12; place++) {
            Due.due("the first one", desk.roster(place, 5), place % 3);
            Due.due("the one put there", desk.roster(place, 0), 5);
            Due.due("0", desk.roster(place, 0), 0);
        }
    }

    private static void rosterWithoutSuchAWorker() {
        HandoverDesk desk = new HandoverDesk();
        for (int worker : Due.outside(0, 5)) {
            Due.due("roster(0, " + worker + ")", desk.roster(0, worker), HandoverDesk.NO_SUCH);
            Due.due("roster(12, " + worker + ")", desk.roster(12, worker), HandoverDesk.NO_SUCH);
        }
        Due.due("place(0, 0)", desk.place(0, 0), 0);
    }

    private static void rosterOutsideItsPlaces() {
        HandoverDesk desk = new HandoverDesk();
        for (int place : Due.outside(0, 11)) {
            Due.due("roster(" + place + ", 0)", desk.roster(place, 0), HandoverDesk.BAD_VALUE);
        }
        Due.due("roster(11, 0)", desk.roster(11, 0), 2);
        Due.due("roster(0, 1)", desk.roster(0, 1), 0);
    }

    // ---- 4: minutes

    private static void minutesZeroToSixty() {
        HandoverDesk desk = new HandoverDesk();
        for (int minutes : Due.outside(0, 60)) {
            Due.due("minutes(0, " + minutes + ")", desk.minutes(0, minutes), HandoverDesk.BAD_VALUE);
        }
        Due.due("minutes(0, 0)", desk.minutes(0, 0), 10);
        Due.due("minutes(0, 60)", desk.minutes(0, 60), 0);
        Due.due("place(0, 1)", desk.place(0, 1), 60);
    }

    private static void minutesOutsideThePlaces() {
        HandoverDesk desk = new HandoverDesk();
        for (int place : Due.outside(0, 11)) {
            Due.due("minutes(" + place + ", 10)", desk.minutes(place, 10), HandoverDesk.BAD_VALUE);
            Due.due("minutes(" + place + ", 61)", desk.minutes(place, 61), HandoverDesk.BAD_VALUE);
        }
        Due.due("minutes(11, 60)", desk.minutes(11, 60), 10);
        Due.due("place(11, 1)", desk.place(11, 1), 60);
    }

    // ---- 5: open

    private static void theEleventhTopic() {
        HandoverDesk desk = Due.deskWith(9);
        Due.due("the tenth", desk.open(), 9);
        Due.due("the eleventh", desk.open(), HandoverDesk.TOO_MANY);
        for (int topic = 0; topic < 10; topic++) {
            desk.turn(topic);
        }
        Due.due("though all are closed", desk.open(), HandoverDesk.TOO_MANY);
        Due.due("topics", desk.count(2), 10);
        Due.due("undo()", desk.undo(), 5);
        Due.due("still ten", desk.open(), HandoverDesk.TOO_MANY);
    }

    private static void itsNumberAfterAnUndo() {
        HandoverDesk desk = Due.deskWith(10);
        desk.learn(3, 9, 44);
        desk.check(9);
        desk.endShift();
        for (int i = 0; i < 4; i++) {
            desk.undo();
        }
        Due.due("nine", desk.count(2), 9);
        Due.due("the tenth again", desk.open(), 9);
        Due.due("as a new one: level", desk.level(3, 9), 0);
        Due.due("as a new one: place", desk.ofTopic(9, 2), HandoverDesk.NONE);
        Due.due("as a new one: begun with", desk.ofTopic(9, 5), 0);
    }

    // ---- 6: turn

    private static void closesOrOpens() {
        HandoverDesk desk = Due.deskWith(10);
        for (int topic = 0; topic < 10; topic += 9) {
            Due.due("closes", desk.turn(topic), 0);
            Due.due("closed", desk.ofTopic(topic, 0), 0);
            Due.due("open ones", desk.count(3), 9);
            Due.due("topics", desk.count(2), 10);
            Due.due("opens", desk.turn(topic), 1);
            Due.due("open", desk.ofTopic(topic, 0), 1);
        }
    }

    private static void turnWithoutSuchATopic() {
        for (int topics = 0; topics <= 10; topics += 5) {
            HandoverDesk desk = Due.deskWith(topics);
            for (int topic : Due.outside(0, topics - 1)) {
                Due.due("turn(" + topic + ")", desk.turn(topic), HandoverDesk.NO_SUCH);
            }
        }
    }

    // ---- 7: check

    private static void atTheEndOrOut() {
        HandoverDesk desk = Due.deskWith(3);
        Due.due("the first one", desk.check(2), 1);
        Due.due("the second one", desk.check(0), 2);
        Due.due("the last one", desk.check(1), 3);
        Due.due("the first one out", desk.check(2), 2);
        Due.due("the others move up", desk.checklist(0), 0);
        Due.due("and keep their order", desk.checklist(1), 1);
        Due.due("in again", desk.check(2), 3);
        Due.due("at the end", desk.checklist(2), 2);
        Due.due("out of the end", desk.check(2), 2);
        Due.due("out of the middle", desk.check(1), 1);
        Due.due("the last one out", desk.check(0), 0);
        Due.due("empty", desk.checklist(0), HandoverDesk.NO_SUCH);
    }

    private static void aFullChecklist() {
        HandoverDesk desk = Due.deskWith(10);
        for (int topic = 9; topic >= 0; topic--) {
            Due.due("check(" + topic + ")", desk.check(topic), 10 - topic);
        }
        Due.due("out of a full one", desk.check(9), 9);
        Due.due("in again", desk.check(9), 10);
        int[] order = {8, 7, 6, 5, 4, 3, 2, 1, 0, 9};
        for (int place = 0; place < 10; place++) {
            Due.due("checklist(" + place + ")", desk.checklist(place), order[place]);
        }
    }

    private static void checkWithoutSuchATopic() {
        for (int topics = 0; topics <= 10; topics += 5) {
            HandoverDesk desk = Due.deskWith(topics);
            for (int topic : Due.outside(0, topics - 1)) {
                Due.due("check(" + topic + ")", desk.check(topic), HandoverDesk.NO_SUCH);
            }
            Due.due("nothing came in", desk.checklist(0), HandoverDesk.NO_SUCH);
        }
    }

    // ---- 8: learn

    private static void notAboveAHundred() {
        int[][] rows = {{1, 99, 100}, {2, 99, 100}, {1, 100, 100}, {100, 100, 100}, {50, 50, 100}, {50, 51, 100}, {50, 49, 99}};
        for (int[] row : rows) {
            HandoverDesk desk = Due.deskWith(1);
            desk.learn(2, 0, row[0]);
            Due.due(row[0] + " and " + row[1], desk.learn(2, 0, row[1]), row[2]);
            Due.due("the level of it", desk.level(2, 0), row[2]);
        }
    }

    private static void pointsOneToAHundred() {
        HandoverDesk desk = Due.deskWith(1);
        for (int points : Due.outside(1, 100)) {
            Due.due("learn(0, 0, " + points + ")", desk.learn(0, 0, points), HandoverDesk.BAD_VALUE);
        }
        Due.due("learn(0, 0, 1)", desk.learn(0, 0, 1), 1);
        Due.due("learn(1, 0, 100)", desk.learn(1, 0, 100), 100);
    }

    private static void learnWithoutSuchAWorkerOrTopic() {
        for (int topics = 0; topics <= 10; topics += 5) {
            HandoverDesk desk = Due.deskWith(topics);
            for (int topic : Due.outside(0, topics - 1)) {
                Due.due("learn(5, " + topic + ", 1)", desk.learn(5, topic, 1), HandoverDesk.NO_SUCH);
                Due.due("learn(5, " + topic + ", 0)", desk.learn(5, topic, 0), HandoverDesk.NO_SUCH);
            }
            for (int worker : Due.outside(0, 5)) {
                Due.due("learn(" + worker + ", 0, 1)", desk.learn(worker, 0, 1), HandoverDesk.NO_SUCH);
                Due.due("learn(" + worker + ", 0, 101)", desk.learn(worker, 0, 101), HandoverDesk.NO_SUCH);
            }
        }
    }

    // ---- 9: call

    private static void callOf(int own, int other, int due) {
        HandoverDesk desk = Due.deskWith(1);
        Due.teach(desk, 0, own);
        Due.teach(desk, 4, other);
        Due.due("call with " + own + " to " + other, desk.call(0), due);
        Due.due("the level of the caller", desk.level(0, 0), due);
        Due.due("the level of the other one", desk.level(4, 0), other);
        Due.due("the cost", desk.count(8), 40);
    }

    private static void theMeanRoundedUp() {
        callOf(0, 1, 1);
        callOf(0, 2, 1);
        callOf(0, 99, 50);
        callOf(0, 100, 50);
        callOf(99, 100, 100);
        callOf(98, 100, 99);
        callOf(1, 2, 2);
    }

    private static void theGreatestOfTheOthers() {
        HandoverDesk desk = Due.deskWith(1);
        for (int worker = 0; worker < 6; worker++) {
            Due.teach(desk, worker, 10 + 10 * worker);
        }
        Due.due("the last worker", desk.call(0), 35);
        desk.roster(0, 5);
        desk.learn(0, 0, 35);
        Due.due("the first worker", desk.call(0), 65);
        desk.roster(0, 2);
        desk.learn(4, 0, 20);
        Due.due("of several with 70 one", desk.call(0), 50);
        Due.due("three calls", desk.count(8), 120);
    }

    private static void eachCallCosts() {
        HandoverDesk desk = Due.deskWith(1);
        Due.teach(desk, 1, 9);
        desk.call(0);
        desk.set(HandoverDesk.CALL, 999);
        desk.call(0);
        desk.set(HandoverDesk.CALL, 0);
        desk.call(0);
        Due.due("40, 999 and 0", desk.count(8), 1039);
        Due.due("5, 7, 8, then 9", desk.call(0), 9);
        Due.due("one that is not possible", desk.call(0), HandoverDesk.NOT_POSSIBLE);
        Due.due("costs nothing", desk.count(8), 1039);
    }

    private static void callWithoutSuchATopic() {
        for (int topics = 0; topics <= 10; topics += 5) {
            HandoverDesk desk = Due.deskWith(topics);
            for (int topic : Due.outside(0, topics - 1)) {
                Due.due("call(" + topic + ")", desk.call(topic), HandoverDesk.NO_SUCH);
            }
        }
    }

    private static void callAboutAClosedOne() {
        HandoverDesk desk = Due.deskWith(1);
        Due.teach(desk, 1, 80);
        desk.turn(0);
        Due.due("closed", desk.call(0), HandoverDesk.NOT_POSSIBLE);
        Due.due("the level stays", desk.level(0, 0), 0);
        desk.turn(0);
        Due.due("open again", desk.call(0), 40);
    }

    private static void nobodyHasAGreaterLevel() {
        HandoverDesk desk = Due.deskWith(1);
        Due.due("all have 0", desk.call(0), HandoverDesk.NOT_POSSIBLE);
        Due.teach(desk, 0, 50);
        Due.due("the others have 0", desk.call(0), HandoverDesk.NOT_POSSIBLE);
        desk.learn(3, 0, 49);
        Due.due("one has one less", desk.call(0), HandoverDesk.NOT_POSSIBLE);
        desk.learn(3, 0, 1);
        Due.due("one has as much", desk.call(0), HandoverDesk.NOT_POSSIBLE);
        desk.learn(3, 0, 1);
        Due.due("one has one more", desk.call(0), 51);
    }

    private static void promisesOneToFour() {
        Due.sentence("Creates a desk without topics.", ChangesBoundaryTest::withoutTopics);
        Due.sentence("Creates a desk", ChangesBoundaryTest::eachDeskIsNew);
        Due.sentence("Returns the previous value;", ChangesBoundaryTest::thePreviousValue);
        Due.sentence("BAD_VALUE if there is no such setting", ChangesBoundaryTest::noSuchSetting);
        Due.sentence("or the value is out of its range.", ChangesBoundaryTest::aValueOutOfItsOwnRange);
        String onDuty = "(also that of the shift of now: another worker is on duty then)";
        Due.sentence(onDuty, ChangesBoundaryTest::anotherWorkerIsOnDutyThen);
        Due.sentence(onDuty, ChangesBoundaryTest::theOneOnDutyAfterARoundOfTheRoster);
        Due.sentence("Returns the previous worker;", ChangesBoundaryTest::thePreviousWorker);
        Due.sentence("NO_SUCH if there is no such worker;", ChangesBoundaryTest::rosterWithoutSuchAWorker);
        Due.sentence("BAD_VALUE if place is not 0 to 11.", ChangesBoundaryTest::rosterOutsideItsPlaces);
        Due.sentence("- `minutes`: 0 to 60", ChangesBoundaryTest::minutesZeroToSixty);
        Due.sentence("Returns the previous minutes; BAD_VALUE if an argument is out of range.",
                ChangesBoundaryTest::minutesOutsideThePlaces);
    }

    private static void promisesFiveToNine() {
        Due.sentence("TOO_MANY if there are 10 topics.", ChangesBoundaryTest::theEleventhTopic);
        Due.sentence("Returns its number;", ChangesBoundaryTest::itsNumberAfterAnUndo);
        Due.sentence("Closes a topic that is open, or opens one that is closed.", ChangesBoundaryTest::closesOrOpens);
        Due.sentence("Returns 1 if it is open then, otherwise 0; NO_SUCH if there is no such topic.",
                ChangesBoundaryTest::turnWithoutSuchATopic);
        Due.sentence("Puts a topic at the end of the checklist, or takes it out if it is in it.",
                ChangesBoundaryTest::atTheEndOrOut);
        String inTheList = "Returns how many topics are in the checklist then; NO_SUCH if there is no such topic.";
        Due.sentence(inTheList, ChangesBoundaryTest::aFullChecklist);
        Due.sentence(inTheList, ChangesBoundaryTest::checkWithoutSuchATopic);
        Due.sentence("the level becomes greater, but not above 100.", ChangesBoundaryTest::notAboveAHundred);
        Due.sentence("- `points`: 1 to 100", ChangesBoundaryTest::pointsOneToAHundred);
        Due.sentence("Returns the level then; NO_SUCH if there is no such worker or topic; BAD_VALUE if points is out of range.",
                ChangesBoundaryTest::learnWithoutSuchAWorkerOrTopic);
        Due.sentence("the level of the worker on duty becomes the mean of both (rounded up).",
                ChangesBoundaryTest::theMeanRoundedUp);
        Due.sentence("calls the other worker with the greatest level for a topic (of several the lowest one)",
                ChangesBoundaryTest::theGreatestOfTheOthers);
        Due.sentence("It costs CALL.", ChangesBoundaryTest::eachCallCosts);
        Due.sentence("Returns the level then; NO_SUCH if there is no such topic;", ChangesBoundaryTest::callWithoutSuchATopic);
        Due.sentence("NOT_POSSIBLE if it is closed,", ChangesBoundaryTest::callAboutAClosedOne);
        Due.sentence("or no other worker has a greater level for it.", ChangesBoundaryTest::nobodyHasAGreaterLevel);
    }

    public static void main(String[] args) {
        promisesOneToFour();
        promisesFiveToNine();
        Due.end();
    }
}
