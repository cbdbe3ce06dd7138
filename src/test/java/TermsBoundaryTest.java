import java.util.function.ToLongFunction;

/** The sentences of "Terms" up to the end of a shift that name a boundary case, each with a test of its own. */
public final class TermsBoundaryTest {
    // ---- conventions

    private static void theFirstErrorIsReturned() {
        HandoverDesk desk = Due.deskWith(10);
        Due.due("roster: place and worker", desk.roster(12, 6), HandoverDesk.NO_SUCH);
        Due.due("roster: both below", desk.roster(-1, -1), HandoverDesk.NO_SUCH);
        Due.due("learn: worker and points", desk.learn(6, 0, 0), HandoverDesk.NO_SUCH);
        Due.due("learn: topic and points", desk.learn(0, 10, 101), HandoverDesk.NO_SUCH);
        Due.due("learn: all", desk.learn(-1, -1, -1), HandoverDesk.NO_SUCH);
        Due.due("ofTopic: topic and what", desk.ofTopic(10, 7), HandoverDesk.NO_SUCH);
        Due.due("ofTopic: both below", desk.ofTopic(-1, -1), HandoverDesk.NO_SUCH);
        Due.write(desk, "e".repeat(80));
        Due.due("put: a code and the length", desk.put(32), HandoverDesk.BAD_VALUE);
        Due.due("put: no character and the length", desk.put(0), HandoverDesk.BAD_VALUE);
        Due.due("put: the length alone", desk.put('e'), HandoverDesk.TOO_MANY);
    }

    private static void refused(String call, ToLongFunction<HandoverDesk> caller, int error) {
        Due.due(call, caller.applyAsLong(Due.busyDesk()), error);
        Due.unchangedBy(call, caller::applyAsLong);
    }

    private static void anErrorOfAChangeChangesNothing() {
        refused("set(6, 1)", desk -> desk.set(6, 1), HandoverDesk.BAD_VALUE);
        refused("set(0, 101)", desk -> desk.set(0, 101), HandoverDesk.BAD_VALUE);
        refused("roster(5, 6)", desk -> desk.roster(5, 6), HandoverDesk.NO_SUCH);
        refused("roster(12, 3)", desk -> desk.roster(12, 3), HandoverDesk.BAD_VALUE);
        refused("minutes(12, 3)", desk -> desk.minutes(12, 3), HandoverDesk.BAD_VALUE);
        refused("minutes(5, 61)", desk -> desk.minutes(5, 61), HandoverDesk.BAD_VALUE);
        refused("open()", HandoverDesk::open, HandoverDesk.TOO_MANY);
        refused("turn(10)", desk -> desk.turn(10), HandoverDesk.NO_SUCH);
        refused("check(10)", desk -> desk.check(10), HandoverDesk.NO_SUCH);
        refused("learn(6, 0, 1)", desk -> desk.learn(6, 0, 1), HandoverDesk.NO_SUCH);
        refused("learn(0, 10, 1)", desk -> desk.learn(0, 10, 1), HandoverDesk.NO_SUCH);
        refused("learn(0, 0, 0)", desk -> desk.learn(0, 0, 0), HandoverDesk.BAD_VALUE);
        refused("learn(0, 0, 101)", desk -> desk.learn(0, 0, 101), HandoverDesk.BAD_VALUE);
        refused("call(10)", desk -> desk.call(10), HandoverDesk.NO_SUCH);
        refused("call(9), closed", desk -> desk.call(9), HandoverDesk.NOT_POSSIBLE);
        refused("call(1), nobody has more", desk -> desk.call(1), HandoverDesk.NOT_POSSIBLE);
    }

    private static void anErrorOfAViewChangesNothing() {
        refused("level(6, 0)", desk -> desk.level(6, 0), HandoverDesk.NO_SUCH);
        refused("level(0, 10)", desk -> desk.level(0, 10), HandoverDesk.NO_SUCH);
        refused("ofTopic(10, 0)", desk -> desk.ofTopic(10, 0), HandoverDesk.NO_SUCH);
        refused("ofTopic(0, 7)", desk -> desk.ofTopic(0, 7), HandoverDesk.BAD_VALUE);
        refused("checklist(3)", desk -> desk.checklist(3), HandoverDesk.NO_SUCH);
        refused("count(19)", desk -> desk.count(19), HandoverDesk.BAD_VALUE);
        refused("place(12, 0)", desk -> desk.place(12, 0), HandoverDesk.BAD_VALUE);
        refused("place(0, 2)", desk -> desk.place(0, 2), HandoverDesk.BAD_VALUE);
        refused("share(10)", desk -> desk.share(10), HandoverDesk.NO_SUCH);
        refused("mean(6)", desk -> desk.mean(6), HandoverDesk.NO_SUCH);
        refused("lostIn(0)", desk -> desk.lostIn(0), HandoverDesk.BAD_VALUE);
        refused("lostIn(51)", desk -> desk.lostIn(51), HandoverDesk.BAD_VALUE);
        refused("bestSplit(41, 0)", desk -> desk.bestSplit(41, 0), HandoverDesk.BAD_VALUE);
        refused("bestSplit(0, 4)", desk -> desk.bestSplit(0, 4), HandoverDesk.BAD_VALUE);
    }

    private static void anErrorOfTextsUndoAndSlotsChangesNothing() {
        refused("put(0)", desk -> desk.put(0), HandoverDesk.BAD_VALUE);
        refused("put(32)", desk -> desk.put(32), HandoverDesk.BAD_VALUE);
        refused("put(9 and a space)", desk -> desk.put(Due.packed("9 ")), HandoverDesk.BAD_VALUE);
        refused("put of six", desk -> desk.put(Due.packed("999999")), HandoverDesk.TOO_MANY);
        refused("put of eight", desk -> desk.put(Due.packed("99999999")), HandoverDesk.TOO_MANY);
        refused("carryOut()", HandoverDesk::carryOut, HandoverDesk.BAD_TEXT);
        refused("save(2)", desk -> desk.save(2), HandoverDesk.BAD_VALUE);
        refused("restore(2)", desk -> desk.restore(2), HandoverDesk.BAD_VALUE);
        refused("restore(1)", desk -> desk.restore(1), HandoverDesk.NOT_POSSIBLE);
        String fresh = Due.everything(HandoverDesk::new);
        String after = Due.everything(() -> {
            HandoverDesk desk = new HandoverDesk();
            Due.due("undo()", desk.undo(), HandoverDesk.NOT_POSSIBLE);
            return desk;
        });
        Due.holds("undo() changes nothing then", fresh.equals(after));
    }

    private static void noneOnlyWithoutAnError() {
        HandoverDesk desk = Due.deskWith(1);
        desk.turn(0);
        Due.due("ofTopic(0, 1)", desk.ofTopic(0, 1), HandoverDesk.NONE);
        Due.due("ofTopic(0, 2)", desk.ofTopic(0, 2), HandoverDesk.NONE);
        Due.due("ofTopic(1, 1)", desk.ofTopic(1, 1), HandoverDesk.NO_SUCH);
        Due.due("ofTopic(1, 2)", desk.ofTopic(1, 2), HandoverDesk.NO_SUCH);
        Due.due("share(0)", desk.share(0), HandoverDesk.NONE);
        Due.due("share(1)", desk.share(1), HandoverDesk.NO_SUCH);
    }

    private static void numberedFromZero() {
        HandoverDesk desk = new HandoverDesk();
        Due.due("the first topic", desk.open(), 0);
        Due.due("the first setting", desk.set(0, 50), 50);
        Due.due("the first place and worker", desk.roster(0, 0), 0);
        Due.due("the first place", desk.minutes(0, 10), 10);
        Due.due("the first worker and topic", desk.learn(0, 0, 1), 1);
        Due.due("the first place in the checklist", desk.ofTopic(desk.check(0) - 1, 2), 0);
        Due.due("the first one of the checklist", desk.checklist(0), 0);
        Due.due("the first shift", desk.count(0), 0);
        Due.due("the first slot", desk.save(0), 0);
        Due.due("the first character", desk.fault(), 0);
    }

    private static void setsAreBitMasks() {
        HandoverDesk desk = Due.deskWith(10);
        Due.due("all are lost", desk.count(9), 1023);
        desk.learn(5, 9, 50);
        Due.due("all but the last one", desk.count(9), 511);
        Due.due("the last one is away", desk.count(10), 512);
        desk.learn(5, 0, 50);
        Due.due("all but the first one, too", desk.count(9), 510);
        Due.due("the first one is away, too", desk.count(10), 513);
        desk.set(HandoverDesk.DECAY, 0);
        Due.due("lostIn(1)", desk.lostIn(1), 510);
    }

    // ---- settings

    private static void aSetting(int setting, int least, int most, int first) {
        HandoverDesk desk = new HandoverDesk();
        Due.due("at first", desk.count(11 + setting), first);
        for (int value : Due.outside(least, most)) {
            Due.due("set(" + setting + ", " + value + ")", desk.set(setting, value), HandoverDesk.BAD_VALUE);
        }
        Due.due("still", desk.count(11 + setting), first);
        Due.due("set to the least", desk.set(setting, least), first);
        Due.due("is the least", desk.count(11 + setting), least);
        Due.due("set to the most", desk.set(setting, most), least);
        Due.due("is the most", desk.count(11 + setting), most);
    }

    private static void known() {
        aSetting(HandoverDesk.KNOWN, 1, 100, 50);
        HandoverDesk desk = Due.deskWith(2);
        Due.teach(desk, 0, 0, 1);
        desk.set(HandoverDesk.KNOWN, 1);
        Due.due("0 is not enough for 1", desk.ofTopic(0, 1), 2);
        Due.due("1 is enough for 1", desk.ofTopic(1, 1), 0);
        Due.teach(desk, 0, 99, 99);
        desk.set(HandoverDesk.KNOWN, 100);
        Due.due("99 is not enough for 100", desk.ofTopic(0, 1), 2);
        Due.due("100 is enough for 100", desk.ofTopic(1, 1), 0);
    }

    private static int passedInAMinute(int pass) {
        HandoverDesk desk = Due.calmDesk(1);
        Due.teach(desk, 0, 100);
        desk.set(HandoverDesk.PASS, pass);
        desk.minutes(0, 1);
        desk.endShift();
        return desk.level(1, 0);
    }

    private static void pass() {
        aSetting(HandoverDesk.PASS, 1, 20, 5);
        Due.due("passed on with 1", passedInAMinute(1), 1);
        Due.due("passed on with 20", passedInAMinute(20), 20);
    }

    private static int decayed(int decay, int level) {
        HandoverDesk desk = Due.calmDesk(1);
        Due.teach(desk, 4, level);
        desk.set(HandoverDesk.DECAY, decay);
        desk.endShift();
        return desk.level(4, 0);
    }

    private static void decay() {
        aSetting(HandoverDesk.DECAY, 0, 50, 10);
        Due.due("100 with 0", decayed(0, 100), 100);
        Due.due("1 with 0", decayed(0, 1), 1);
        Due.due("100 with 50", decayed(50, 100), 50);
        Due.due("1 with 50", decayed(50, 1), 0);
    }

    private static int worked(int work, int level) {
        HandoverDesk desk = Due.calmDesk(1);
        Due.teach(desk, 0, level);
        desk.set(HandoverDesk.WORK, work);
        desk.endShift();
        return desk.level(0, 0);
    }

    private static void work() {
        aSetting(HandoverDesk.WORK, 0, 20, 8);
        Due.due("30 with 0", worked(0, 30), 30);
        Due.due("30 with 20", worked(20, 30), 50);
    }

    private static int costOfMinutes(int cost, int minutes) {
        HandoverDesk desk = new HandoverDesk();
        desk.set(HandoverDesk.COST, cost);
        desk.minutes(0, minutes);
        desk.endShift();
        return desk.count(7);
    }

    private static void cost() {
        aSetting(HandoverDesk.COST, 0, 99, 3);
        Due.due("60 minutes at 0", costOfMinutes(0, 60), 0);
        Due.due("60 minutes at 99", costOfMinutes(99, 60), 5940);
    }

    private static int costOfACall(int cost) {
        HandoverDesk desk = Due.deskWith(1);
        Due.teach(desk, 3, 10);
        desk.set(HandoverDesk.CALL, cost);
        desk.call(0);
        return desk.count(8);
    }

    private static void call() {
        aSetting(HandoverDesk.CALL, 0, 999, 40);
        Due.due("a call at 0", costOfACall(0), 0);
        Due.due("a call at 999", costOfACall(999), 999);
    }

    // ---- workers, shifts, topics

    private static void sixWorkers() {
        HandoverDesk desk = Due.deskWith(1);
        for (int worker = 0; worker < 6; worker++) {
            Due.due("learn(" + worker + ", 0, 7)", desk.learn(worker, 0, 7), 7);
            Due.due("roster(0, " + worker + ")", desk.roster(0, worker), Math.max(0, worker - 1));
        }
        for (int worker : Due.outside(0, 5)) {
            Due.due("learn(" + worker + ", 0, 7)", desk.learn(worker, 0, 7), HandoverDesk.NO_SUCH);
            Due.due("roster(0, " + worker + ")", desk.roster(0, worker), HandoverDesk.NO_SUCH);
        }
    }

    private static void leftOverByTwelve() {
        HandoverDesk desk = new HandoverDesk();
        for (int place = 0; place < 12; place++) {
            desk.roster(place, place / 2);
        }
        for (int shift = 0; shift < 40; shift++) {
            Due.due("count(0)", desk.count(0), shift);
            Due.due("on duty in the shift " + shift, desk.count(1), shift % 12 / 2);
            desk.endShift();
        }
    }

    private static void leftOverByTwelveAfterManyShifts() {
        HandoverDesk desk = new HandoverDesk();
        desk.roster(8, 5);
        for (int time = 0; time < 44; time++) {
            Due.write(desk, "e;".repeat(39) + "e");
            desk.carryOut();
        }
        Due.due("44 times 40", desk.count(0), 1760);
        Due.due("1760 is 8 left over by 12", desk.count(1), 5);
        Due.due("each had ten minutes", desk.count(5), 17600);
    }

    private static void leftOverByThreeAtFirst() {
        int[] workers = {0, 1, 2, 0, 1, 2, 0, 1, 2, 0, 1, 2};
        HandoverDesk desk = new HandoverDesk();
        for (int place = 0; place < 12; place++) {
            Due.due("place(" + place + ", 0)", desk.place(place, 0), workers[place]);
        }
    }

    private static void theShiftOfNowIsZeroAtFirst() {
        HandoverDesk desk = new HandoverDesk();
        Due.due("count(0)", desk.count(0), 0);
        Due.due("count(1)", desk.count(1), 0);
    }

    private static void overlapMinutes() {
        HandoverDesk desk = new HandoverDesk();
        int had = 0;
        for (int place = 0; place < 12; place++) {
            Due.due("place(" + place + ", 1)", desk.place(place, 1), 10);
            Due.due("minutes(" + place + ", ..)", desk.minutes(place, 5 * place), 10);
        }
        for (int shift = 0; shift < 25; shift++) {
            desk.endShift();
            had += 5 * (shift % 12);
            Due.due("had after the shift " + shift, desk.count(5), had);
        }
        Due.due("not below 0", desk.minutes(3, -1), HandoverDesk.BAD_VALUE);
        Due.due("60 at most", desk.minutes(3, 61), HandoverDesk.BAD_VALUE);
        Due.due("60", desk.minutes(3, 60), 15);
        Due.due("0", desk.minutes(3, 0), 60);
    }

    private static void thePlaceElevenIsBesideThePlaceZero() {
        HandoverDesk desk = Due.calmDesk(1);
        for (int place = 0; place < 12; place++) {
            desk.minutes(place, place == 11 ? 4 : 0);
        }
        for (int shift = 0; shift < 11; shift++) {
            desk.endShift();
        }
        Due.teach(desk, 2, 100);
        desk.check(0);
        Due.due("four minutes do not make it known", desk.endShift(), 1);
        Due.levels("worker 2 to worker 0", desk, 0, 20);
        Due.due("had", desk.count(5), 4);
    }

    private static void tenTopicsInTheirOrder() {
        HandoverDesk desk = new HandoverDesk();
        for (int topic = 0; topic < 10; topic++) {
            Due.due("no such topic yet", desk.ofTopic(topic, 0), HandoverDesk.NO_SUCH);
            Due.due("open()", desk.open(), topic);
            Due.due("open at first", desk.ofTopic(topic, 0), 1);
        }
        Due.due("no more", desk.open(), HandoverDesk.TOO_MANY);
        Due.due("turn(9) closes it", desk.turn(9), 0);
        Due.due("closed", desk.ofTopic(9, 0), 0);
        Due.due("its number is not free", desk.open(), HandoverDesk.TOO_MANY);
        Due.due("turn(9) opens it", desk.turn(9), 1);
        Due.due("open again", desk.ofTopic(9, 0), 1);
    }

    private static void levelsFromZeroToAHundred() {
        HandoverDesk desk = Due.deskWith(10);
        for (int worker = 0; worker < 6; worker++) {
            Due.levels("at first", desk, worker, 0, 0, 0, 0, 0, 0, 0, 0, 0, 0);
            Due.due("learned at once", desk.learn(worker, 9, 100), 100);
            Due.due("not above", desk.learn(worker, 9, 1), 100);
        }
    }

    private static void atLeastKnown() {
        HandoverDesk desk = Due.deskWith(3);
        Due.teach(desk, 0, 49, 50, 51);
        Due.due("49", desk.ofTopic(0, 1), 2);
        Due.due("50", desk.ofTopic(1, 1), 0);
        Due.due("51", desk.ofTopic(2, 1), 0);
    }

    private static void knownAwayOrLost() {
        HandoverDesk desk = Due.deskWith(4);
        Due.teach(desk, 0, 50, 49, 49, 0);
        Due.teach(desk, 1, 0, 49, 49, 100);
        Due.teach(desk, 5, 100, 50, 49, 0);
        Due.due("the worker on duty knows it", desk.ofTopic(0, 1), 0);
        Due.due("only the last worker knows it", desk.ofTopic(1, 1), 1);
        Due.due("nobody knows it", desk.ofTopic(2, 1), 2);
        Due.due("only the next worker knows it", desk.ofTopic(3, 1), 1);
        desk.roster(0, 5);
        Due.due("known by the last worker on duty", desk.ofTopic(1, 1), 0);
        desk.turn(1);
        Due.due("closed", desk.ofTopic(1, 1), HandoverDesk.NONE);
    }

    private static void someWorkerKnowsIt() {
        for (int knowing = 0; knowing < 6; knowing++) {
            HandoverDesk desk = Due.deskWith(1);
            desk.learn(knowing, 0, 50);
            for (int onDuty = 0; onDuty < 6; onDuty++) {
                desk.roster(0, onDuty);
                Due.due(onDuty + " on duty, " + knowing + " knows it", desk.ofTopic(0, 1), onDuty == knowing ? 0 : 1);
            }
        }
    }

    private static void eachAtMostOnceInTheChecklist() {
        HandoverDesk desk = Due.deskWith(2);
        Due.due("none at first", desk.checklist(0), HandoverDesk.NO_SUCH);
        Due.due("in", desk.check(1), 1);
        Due.due("out, not in twice", desk.check(1), 0);
        Due.due("none", desk.checklist(0), HandoverDesk.NO_SUCH);
        desk.check(0);
        desk.check(1);
        desk.turn(0);
        Due.teach(desk, 0, 100, 100);
        desk.minutes(0, 1);
        Due.due("the closed one is no miss", desk.endShift(), 1);
        Due.levels("the closed one is not passed on", desk, 1, 0, 5);
    }

    private static void conventions() {
        Due.sentence("it names its errors in the order in which they are checked, and the first one that applies is returned",
                TermsBoundaryTest::theFirstErrorIsReturned);
        String nothing = "A call that returns an error changes nothing.";
        Due.sentence(nothing, TermsBoundaryTest::anErrorOfAChangeChangesNothing);
        Due.sentence(nothing, TermsBoundaryTest::anErrorOfAViewChangesNothing);
        Due.sentence(nothing, TermsBoundaryTest::anErrorOfTextsUndoAndSlotsChangesNothing);
        Due.sentence("NONE (-6) is not an error; it is returned only if no error applies.",
                TermsBoundaryTest::noneOnlyWithoutAnError);
        Due.sentence("Everything is numbered from 0.", TermsBoundaryTest::numberedFromZero);
        Due.sentence("Sets of topics are bit masks.", TermsBoundaryTest::setsAreBitMasks);
    }

    private static void settings() {
        Due.sentence("KNOWN (1 to 100; 50)", TermsBoundaryTest::known);
        Due.sentence("PASS (1 to 20; 5)", TermsBoundaryTest::pass);
        Due.sentence("DECAY (0 to 50; 10)", TermsBoundaryTest::decay);
        Due.sentence("WORK (0 to 20; 8)", TermsBoundaryTest::work);
        Due.sentence("COST (0 to 99; 3)", TermsBoundaryTest::cost);
        Due.sentence("CALL (0 to 999; 40)", TermsBoundaryTest::call);
    }

    private static void workersShiftsTopics() {
        Due.sentence("There are 6 workers, 0 to 5.", TermsBoundaryTest::sixWorkers);
        String leftOver = "the shift s is that of the worker in the place s left over by 12";
        Due.sentence(leftOver, TermsBoundaryTest::leftOverByTwelve);
        Due.sentence(leftOver, TermsBoundaryTest::leftOverByTwelveAfterManyShifts);
        Due.sentence("(at first in the place p the worker p left over by 3)", TermsBoundaryTest::leftOverByThreeAtFirst);
        Due.sentence("The shift of now is 0 at first; its worker is on duty.", TermsBoundaryTest::theShiftOfNowIsZeroAtFirst);
        Due.sentence("overlap minutes are bought (0 to 60; 10 at first)", TermsBoundaryTest::overlapMinutes);
        Due.sentence("those of the shift s are had at its end, beside the next one.",
                TermsBoundaryTest::thePlaceElevenIsBesideThePlaceZero);
        Due.sentence("There are up to 10 topics, numbered in the order in which they came; each is open at first, and can be"
                + " closed and opened again.", TermsBoundaryTest::tenTopicsInTheirOrder);
        Due.sentence("Each worker has a level for each topic, 0 to 100 (0 at first).",
                TermsBoundaryTest::levelsFromZeroToAHundred);
        Due.sentence("A worker knows a topic with a level of at least KNOWN.", TermsBoundaryTest::atLeastKnown);
        Due.sentence("An open topic is known (0) if the worker on duty knows it; otherwise away (1) if some worker knows it;"
                + " otherwise lost (2).", TermsBoundaryTest::knownAwayOrLost);
        Due.sentence("otherwise away (1) if some worker knows it;", TermsBoundaryTest::someWorkerKnowsIt);
        Due.sentence("The checklist is a row of topics, each at most once (none at first); closed topics in it are passed over.",
                TermsBoundaryTest::eachAtMostOnceInTheChecklist);
    }

    public static void main(String[] args) {
        conventions();
        settings();
        workersShiftsTopics();
        Due.end();
    }
}
