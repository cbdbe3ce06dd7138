/** The sentences of promises 11 to 18 that name a boundary case, each with a test of its own. */
public final class ViewsBoundaryTest {
    private static final int[] SOME_TOPICS = {0, 1, 5, 10};

    // ---- 11: level

    private static void levelWithoutSuchAWorkerOrTopic() {
        for (int topics : SOME_TOPICS) {
            HandoverDesk desk = Due.deskWith(topics);
            for (int topic : Due.outside(0, topics - 1)) {
                Due.due("level(0, " + topic + ")", desk.level(0, topic), HandoverDesk.NO_SUCH);
                Due.due("level(6, " + topic + ")", desk.level(6, topic), HandoverDesk.NO_SUCH);
            }
            for (int worker : Due.outside(0, 5)) {
                Due.due("level(" + worker + ", 0)", desk.level(worker, 0), HandoverDesk.NO_SUCH);
            }
        }
    }

    private static void theFirstAndTheLastLevel() {
        HandoverDesk desk = Due.deskWith(10);
        desk.learn(0, 0, 1);
        desk.learn(5, 9, 100);
        Due.due("level(0, 0)", desk.level(0, 0), 1);
        Due.due("level(5, 9)", desk.level(5, 9), 100);
        Due.due("level(0, 9)", desk.level(0, 9), 0);
        Due.due("level(5, 0)", desk.level(5, 0), 0);
        desk.turn(9);
        Due.due("of a closed one", desk.level(5, 9), 100);
    }

    // ---- 12: ofTopic

    private static void ofTopicWithoutSuchATopic() {
        for (int topics : SOME_TOPICS) {
            HandoverDesk desk = Due.deskWith(topics);
            for (int topic : Due.outside(0, topics - 1)) {
                for (int what = -1; what <= 7; what++) {
                    Due.due("ofTopic(" + topic + ", " + what + ")", desk.ofTopic(topic, what), HandoverDesk.NO_SUCH);
                }
            }
        }
    }

    private static void ofTopicOutOfRange() {
        HandoverDesk desk = Due.deskWith(10);
        desk.turn(9);
        for (int what : Due.outside(0, 6)) {
            Due.due("ofTopic(0, " + what + ")", desk.ofTopic(0, what), HandoverDesk.BAD_VALUE);
            Due.due("ofTopic(9, " + what + ")", desk.ofTopic(9, what), HandoverDesk.BAD_VALUE);
        }
        int[] first = {1, 2, HandoverDesk.NONE, 0, 0, 0, 0};
        for (int what = 0; what <= 6; what++) {
            Due.due("ofTopic(0, " + what + ")", desk.ofTopic(0, what), first[what]);
        }
    }

    private static void openOrNot() {
        HandoverDesk desk = Due.deskWith(2);
        Due.due("open", desk.ofTopic(1, 0), 1);
        desk.turn(1);
        Due.due("closed", desk.ofTopic(1, 0), 0);
        Due.due("the other one", desk.ofTopic(0, 0), 1);
    }

    private static void howItIs() {
        HandoverDesk desk = Due.deskWith(3);
        Due.teach(desk, 0, 50, 49, 49);
        Due.teach(desk, 2, 0, 50, 49);
        for (int topic = 0; topic < 3; topic++) {
            Due.due("open", desk.ofTopic(topic, 1), topic);
            desk.turn(topic);
            Due.due("closed", desk.ofTopic(topic, 1), HandoverDesk.NONE);
        }
    }

    private static void itsPlaceInTheChecklist() {
        HandoverDesk desk = Due.deskWith(10);
        Due.due("the list is empty", desk.ofTopic(0, 2), HandoverDesk.NONE);
        for (int topic = 9; topic > 0; topic--) {
            desk.check(topic);
        }
        Due.due("it is not in it", desk.ofTopic(0, 2), HandoverDesk.NONE);
        desk.check(0);
        Due.due("it is the last one", desk.ofTopic(0, 2), 9);
        Due.due("it is the first one", desk.ofTopic(9, 2), 0);
        desk.turn(9);
        Due.due("a closed one keeps its place", desk.ofTopic(9, 2), 0);
        desk.check(9);
        Due.due("it was taken out", desk.ofTopic(9, 2), HandoverDesk.NONE);
        Due.due("the one behind it is the first one", desk.ofTopic(8, 2), 0);
        Due.due("the last one moves up", desk.ofTopic(0, 2), 8);
    }

    private static void theWorkerWithTheGreatestLevel() {
        HandoverDesk desk = Due.deskWith(1);
        Due.due("all have 0", desk.ofTopic(0, 3), 0);
        for (int worker = 5; worker >= 0; worker--) {
            desk.learn(worker, 0, 30);
            Due.due("of several the lowest one", desk.ofTopic(0, 3), worker);
        }
        desk.learn(5, 0, 1);
        Due.due("one more is enough", desk.ofTopic(0, 3), 5);
        desk.turn(0);
        Due.due("of a closed one, too", desk.ofTopic(0, 3), 5);
    }

    private static void missesAndBeginningsSoFar() {
        HandoverDesk desk = Due.calmDesk(2);
        desk.check(0);
        for (int what = 4; what <= 6; what++) {
            Due.due("ofTopic(0, " + what + ") before", desk.ofTopic(0, what), 0);
        }
        desk.endShift();
        desk.learn(2, 0, 50);
        desk.endShift();
        int[] due = {1, 2, 1};
        for (int what = 4; what <= 6; what++) {
            Due.due("ofTopic(0, " + what + ")", desk.ofTopic(0, what), due[what - 4]);
            Due.due("ofTopic(1, " + what + ")", desk.ofTopic(1, what), what == 5 ? 2 : 0);
        }
        desk.turn(0);
        desk.endShift();
        for (int what = 4; what <= 6; what++) {
            Due.due("ofTopic(0, " + what + ") of a closed one", desk.ofTopic(0, what), due[what - 4]);
        }
    }

    // ---- 13: checklist

    private static void noSuchPlaceInTheChecklist() {
        HandoverDesk desk = Due.deskWith(10);
        for (int length = 0; length <= 10; length++) {
            for (int place : Due.outside(0, length - 1)) {
                Due.due("checklist(" + place + ") of " + length, desk.checklist(place), HandoverDesk.NO_SUCH);
            }
            if (length > 0) {
                Due.due("the first one", desk.checklist(0), 9);
                Due.due("the last one", desk.checklist(length - 1), 10 - length);
            }
            desk.check(9 - length);
        }
    }

    private static void closedOnesOfTheChecklist() {
        HandoverDesk desk = Due.deskWith(2);
        desk.check(1);
        desk.check(0);
        desk.turn(1);
        Due.due("checklist(0)", desk.checklist(0), 1);
        Due.due("checklist(1)", desk.checklist(1), 0);
        desk.check(1);
        Due.due("taken out", desk.checklist(0), 0);
        Due.due("no second place", desk.checklist(1), HandoverDesk.NO_SUCH);
    }

    // ---- 14: count

    private static void countOutOfRange() {
        HandoverDesk desk = Due.deskWith(10);
        for (int what : Due.outside(0, 18)) {
            Due.due("count(" + what + ")", desk.count(what), HandoverDesk.BAD_VALUE);
        }
    }

    private static void eachCount() {
        HandoverDesk desk = Due.deskWith(4);
        Due.teach(desk, 0, 50, 5);
        Due.teach(desk, 4, 50, 30, 0, 60);
        desk.turn(3);
        desk.check(2);
        desk.minutes(0, 60);
        desk.set(HandoverDesk.CALL, 7);
        desk.endShift();
        desk.call(1);
        desk.put(Due.packed("o;e"));
        // Work makes 58, 13 and 8 of 50, 5 and 0: 12, 3 and 2 minutes pass all of it on.
        int[] due = {1, 1, 4, 3, 1, 60, 60 - 12 - 3 - 2, 180, 7, 6, 0, 50, 5, 10, 8, 3, 7, 3, 6};
        for (int what = 0; what <= 18; what++) {
            Due.due("count(" + what + ")", desk.count(what), due[what]);
        }
    }

    private static void lostAndAwayOnes() {
        HandoverDesk desk = new HandoverDesk();
        Due.due("none is lost", desk.count(9), 0);
        Due.due("none is away", desk.count(10), 0);
        for (int topic = 0; topic < 10; topic++) {
            desk.open();
            desk.learn(topic % 2 == 0 ? 5 : 0, topic, topic < 6 ? 50 : 49);
        }
        Due.due("lost", desk.count(9), 0b1111000000);
        Due.due("away", desk.count(10), 0b0000010101);
        desk.turn(9);
        desk.turn(4);
        Due.due("closed ones are not lost", desk.count(9), 0b0111000000);
        Due.due("closed ones are not away", desk.count(10), 0b0000000101);
    }

    private static void thePadAndTheHistory() {
        HandoverDesk desk = new HandoverDesk();
        Due.due("an empty pad", desk.count(17), 0);
        Due.write(desk, "e".repeat(80));
        Due.due("a full pad", desk.count(17), 80);
        for (int changes = 0; changes <= 8; changes++) {
            Due.due("after " + changes + " changes", desk.count(18), Math.min(6, changes));
            desk.endShift();
        }
    }

    // ---- 15: place

    private static void placeOutOfRange() {
        HandoverDesk desk = new HandoverDesk();
        for (int place : Due.outside(0, 11)) {
            Due.due("place(" + place + ", 0)", desk.place(place, 0), HandoverDesk.BAD_VALUE);
            Due.due("place(" + place + ", 1)", desk.place(place, 1), HandoverDesk.BAD_VALUE);
            Due.due("place(" + place + ", 2)", desk.place(place, 2), HandoverDesk.BAD_VALUE);
        }
        for (int what : Due.outside(0, 1)) {
            Due.due("place(0, " + what + ")", desk.place(0, what), HandoverDesk.BAD_VALUE);
            Due.due("place(11, " + what + ")", desk.place(11, what), HandoverDesk.BAD_VALUE);
        }
    }

    private static void theFirstAndTheLastPlace() {
        HandoverDesk desk = new HandoverDesk();
        desk.roster(0, 5);
        desk.minutes(0, 60);
        desk.roster(11, 4);
        desk.minutes(11, 0);
        Due.due("place(0, 0)", desk.place(0, 0), 5);
        Due.due("place(0, 1)", desk.place(0, 1), 60);
        Due.due("place(11, 0)", desk.place(11, 0), 4);
        Due.due("place(11, 1)", desk.place(11, 1), 0);
    }

    // ---- 16: inOrder

    private static void inOrderWithoutOpenTopics() {
        HandoverDesk desk = new HandoverDesk();
        Due.due("no topics", desk.inOrder(), 0);
        desk.open();
        desk.learn(0, 0, 100);
        Due.due("one", desk.inOrder(), 1);
        desk.turn(0);
        Due.due("none is open", desk.inOrder(), 0);
    }

    private static void upToTheFirstThatIsNot() {
        HandoverDesk desk = Due.deskWith(10);
        for (int topic = 9; topic > 0; topic--) {
            desk.learn(0, topic, 50);
            Due.due("the lowest one is not known", desk.inOrder(), 0);
        }
        desk.learn(0, 0, 49);
        Due.due("one below KNOWN", desk.inOrder(), 0);
        desk.learn(0, 0, 1);
        Due.due("all are", desk.inOrder(), 10);
        for (int known = 9; known >= 0; known--) {
            desk = Due.deskWith(10);
            Due.teach(desk, 0, 50, 50, 50, 50, 50, 50, 50, 50, 50, 50);
            desk.set(HandoverDesk.KNOWN, 51);
            for (int topic = 0; topic < 10; topic++) {
                if (topic != known) {
                    desk.learn(0, topic, 1);
                }
            }
            Due.due("up to " + known, desk.inOrder(), known);
            desk.turn(known);
            Due.due("all but the closed one", desk.inOrder(), 9);
        }
    }

    private static void awayIsNotKnown() {
        HandoverDesk desk = Due.deskWith(2);
        Due.teach(desk, 1, 100, 100);
        Due.due("another worker knows both", desk.inOrder(), 0);
        desk.roster(0, 1);
        Due.due("that one is on duty", desk.inOrder(), 2);
    }

    // ---- 17: share

    private static void shareWithoutSuchATopic() {
        for (int topics : SOME_TOPICS) {
            HandoverDesk desk = Due.deskWith(topics);
            for (int topic : Due.outside(0, topics - 1)) {
                Due.due("share(" + topic + ")", desk.share(topic), HandoverDesk.NO_SUCH);
            }
        }
    }

    private static void neverBegunWith() {
        HandoverDesk desk = Due.deskWith(2);
        Due.due("before the first end", desk.share(0), HandoverDesk.NONE);
        desk.turn(1);
        desk.endShift();
        Due.due("begun with, not known", desk.share(0), 0);
        Due.due("closed at each end", desk.share(1), HandoverDesk.NONE);
        desk.open();
        Due.due("a new one", desk.share(2), HandoverDesk.NONE);
        desk.undo();
        desk.undo();
        Due.due("undone", desk.share(0), HandoverDesk.NONE);
    }

    /** The worker 0 knows the topic, the worker 1 does not; both take turns as the numbers tell. */
    private static int shareOf(int known, int unknown) {
        HandoverDesk desk = Due.calmDesk(1);
        Due.teach(desk, 0, 50);
        for (int shift = 0; shift < known + unknown; shift++) {
            desk.minutes(shift % 12, 0);
            desk.roster((shift + 1) % 12, shift < known ? 0 : 1);
            desk.endShift();
        }
        return desk.share(0);
    }

    private static void theBitsOfAShare() {
        Due.due("none of 1", shareOf(0, 1), 0);
        Due.due("1 of 1", shareOf(1, 0), 0x3f800000);
        Due.due("100 of 100", shareOf(100, 0), 0x3f800000);
        Due.due("1 of 2", shareOf(1, 1), 0x3f000000);
        Due.due("1 of 3, rounded up", shareOf(1, 2), 0x3eaaaaab);
        Due.due("2 of 3, rounded up", shareOf(2, 1), 0x3f2aaaab);
        Due.due("1 of 10, rounded up", shareOf(1, 9), 0x3dcccccd);
        Due.due("1 of 5", shareOf(1, 4), 0x3e4ccccd);
        Due.due("1 of 7, rounded down", shareOf(1, 6), 0x3e124925);
        Due.due("99 of 100", shareOf(99, 1), 0x3f7d70a4);
        Due.due("1 of 160", shareOf(1, 159), 0x3bcccccd);
    }

    private static void aShareOfManyShifts() {
        HandoverDesk desk = Due.calmDesk(1);
        Due.teach(desk, 0, 50);
        for (int place = 0; place < 12; place++) {
            desk.minutes(place, 0);
        }
        for (int time = 0; time < 44; time++) {
            Due.write(desk, "e;".repeat(39) + "e");
            desk.carryOut();
        }
        Due.due("begun with", desk.ofTopic(0, 5), 1760);
        Due.due("known in each third one", desk.ofTopic(0, 6), 586);
        Due.due("share(0)", desk.share(0), Float.floatToIntBits((float) (586.0 / 1760.0)));
    }

    // ---- 18: mean

    private static void meanWithoutSuchAWorker() {
        for (int topics : SOME_TOPICS) {
            HandoverDesk desk = Due.deskWith(topics);
            for (int worker : Due.outside(0, 5)) {
                Due.due("mean(" + worker + ")", desk.mean(worker), HandoverDesk.NO_SUCH);
            }
        }
    }

    private static void noTopicIsOpen() {
        HandoverDesk desk = new HandoverDesk();
        Due.due("no topics", desk.mean(5), 0L);
        desk.open();
        desk.learn(5, 0, 90);
        Due.due("an open one", desk.mean(5), 0x4056800000000000L);
        desk.turn(0);
        Due.due("a closed one", desk.mean(5), 0L);
        Due.due("no such worker", desk.mean(6), HandoverDesk.NO_SUCH);
    }

    private static void mean(long bits, int... levels) {
        HandoverDesk desk = Due.deskWith(levels.length);
        Due.teach(desk, 3, levels);
        Due.due("mean of " + levels.length, desk.mean(3), bits);
    }

    private static void theBitsOfAMean() {
        mean(0L, 0);
        mean(0L, 0, 0, 0, 0, 0, 0, 0, 0, 0, 0);
        mean(0x3ff0000000000000L, 1);
        mean(0x4000000000000000L, 2);
        mean(0x4059000000000000L, 100);
        mean(0x4059000000000000L, 100, 100, 100, 100, 100, 100, 100, 100, 100, 100);
        mean(0x4058f9999999999aL, 100, 100, 100, 100, 100, 100, 100, 100, 100, 99);
        mean(0x3fe0000000000000L, 1, 0);
        mean(0x3fd5555555555555L, 0, 0, 1);
        mean(0x3fe5555555555555L, 0, 2, 0);
        mean(0x3fb999999999999aL, 0, 0, 0, 0, 0, 0, 0, 0, 0, 1);
        mean(0x3ff0000000000000L, 1, 1, 1, 1, 1, 1, 1);
        mean(0x3fc2492492492492L, 0, 0, 0, 0, 0, 0, 1);
    }

    private static void onlyOpenTopicsAreInTheMean() {
        HandoverDesk desk = Due.deskWith(3);
        Due.teach(desk, 0, 100, 40, 41);
        desk.turn(0);
        Due.due("81 over 2", desk.mean(0), Double.doubleToLongBits(40.5));
        desk.turn(2);
        Due.due("40 over 1", desk.mean(0), Double.doubleToLongBits(40.0));
    }

    private static void looksChangeNothing() {
        Due.unchangedBy("level", desk -> desk.level(0, 0));
        Due.unchangedBy("checklist", desk -> desk.checklist(0));
        Due.unchangedBy("place", desk -> desk.place(5, 1));
        Due.unchangedBy("inOrder", HandoverDesk::inOrder);
        Due.unchangedBy("share", desk -> desk.share(0));
        Due.unchangedBy("mean", desk -> desk.mean(0));
        for (int each = 0; each <= 18; each++) {
            int what = each;
            Due.unchangedBy("ofTopic " + what, desk -> desk.ofTopic(2, what));
            Due.unchangedBy("count " + what, desk -> desk.count(what));
        }
    }

    private static void promisesElevenToThirteen() {
        Due.sentence("Returns the level; NO_SUCH if there is no such worker or topic.",
                ViewsBoundaryTest::levelWithoutSuchAWorkerOrTopic);
        Due.sentence("Returns the level of a worker for a topic.", ViewsBoundaryTest::theFirstAndTheLastLevel);
        Due.sentence("Returns the number; NO_SUCH if there is no such topic;", ViewsBoundaryTest::ofTopicWithoutSuchATopic);
        Due.sentence("BAD_VALUE if what is out of range.", ViewsBoundaryTest::ofTopicOutOfRange);
        Due.sentence("0 whether it is open (1 or 0),", ViewsBoundaryTest::openOrNot);
        Due.sentence("1 how it is: 0 known, 1 away, 2 lost (NONE if it is closed),", ViewsBoundaryTest::howItIs);
        Due.sentence("2 its place in the checklist (NONE),", ViewsBoundaryTest::itsPlaceInTheChecklist);
        Due.sentence("3 the worker with the greatest level for it, of several the lowest one,",
                ViewsBoundaryTest::theWorkerWithTheGreatestLevel);
        Due.sentence("4 its misses so far, 5 how often it was begun with, 6 how often it was begun with known",
                ViewsBoundaryTest::missesAndBeginningsSoFar);
        Due.sentence("Returns the topic; NO_SUCH if there is no such place.", ViewsBoundaryTest::noSuchPlaceInTheChecklist);
        Due.sentence("- `place`: 0 for the first one", ViewsBoundaryTest::closedOnesOfTheChecklist);
    }

    private static void promisesFourteenToSixteen() {
        Due.sentence("Returns the number; BAD_VALUE if what is out of range.", ViewsBoundaryTest::countOutOfRange);
        Due.sentence("- `what`: 0 the shift of now, 1 the worker on duty, 2 topics,", ViewsBoundaryTest::eachCount);
        Due.sentence("9 open topics that are lost, as a set, 10 open topics that are away, as a set,",
                ViewsBoundaryTest::lostAndAwayOnes);
        Due.sentence("17 the length of the pad, 18 how many changes can be undone", ViewsBoundaryTest::thePadAndTheHistory);
        Due.sentence("Returns the number; BAD_VALUE if an argument is out of range.", ViewsBoundaryTest::placeOutOfRange);
        Due.sentence("Returns the worker of a place of the roster, or its minutes.", ViewsBoundaryTest::theFirstAndTheLastPlace);
        String inOrder = "up to the first one that is not (all, if all are).";
        Due.sentence(inOrder, ViewsBoundaryTest::inOrderWithoutOpenTopics);
        Due.sentence(inOrder, ViewsBoundaryTest::upToTheFirstThatIsNot);
        Due.sentence("Returns how many of the open topics are known,", ViewsBoundaryTest::awayIsNotKnown);
    }

    private static void promisesSeventeenAndEighteen() {
        Due.sentence("Returns the bits; NO_SUCH if there is no such topic;", ViewsBoundaryTest::shareWithoutSuchATopic);
        Due.sentence("NONE if it was never begun with.", ViewsBoundaryTest::neverBegunWith);
        String share = "of the double that this number gives, divided by how often it was begun with, made a float.";
        Due.sentence(share, ViewsBoundaryTest::theBitsOfAShare);
        Due.sentence(share, ViewsBoundaryTest::aShareOfManyShifts);
        Due.sentence("NO_SUCH if there is no such worker.", ViewsBoundaryTest::meanWithoutSuchAWorker);
        Due.sentence("Returns the bits (0 if no topic is open);", ViewsBoundaryTest::noTopicIsOpen);
        Due.sentence("of the double that the sum of these levels gives, divided by the open topics.",
                ViewsBoundaryTest::theBitsOfAMean);
        Due.sentence("the mean level of a worker for all open topics", ViewsBoundaryTest::onlyOpenTopicsAreInTheMean);
    }

    public static void main(String[] args) {
        Due.sentence("---- what there is.", ViewsBoundaryTest::looksChangeNothing);
        promisesElevenToThirteen();
        promisesFourteenToSixteen();
        promisesSeventeenAndEighteen();
        Due.end();
    }
}
