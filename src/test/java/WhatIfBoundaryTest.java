import java.util.Arrays;
import java.util.function.Supplier;

/** The sentences of promises 19 to 21 that name a boundary case, each with a test of its own. */
public final class WhatIfBoundaryTest {
    // ---- 19: leastMinutes

    /** One topic, which the worker 0 has all of and the worker 1 nothing. */
    private static HandoverDesk oneToPassOn(int known, int pass) {
        HandoverDesk desk = Due.calmDesk(1);
        Due.teach(desk, 0, 100);
        desk.check(0);
        desk.set(HandoverDesk.KNOWN, known);
        desk.set(HandoverDesk.PASS, pass);
        return desk;
    }

    private static void zeroToSixty() {
        Due.due("1 by 1", oneToPassOn(1, 1).leastMinutes(), 1);
        Due.due("59 by 1", oneToPassOn(59, 1).leastMinutes(), 59);
        Due.due("60 by 1", oneToPassOn(60, 1).leastMinutes(), 60);
        Due.due("61 by 1", oneToPassOn(61, 1).leastMinutes(), HandoverDesk.NONE);
        Due.due("100 by 1", oneToPassOn(100, 1).leastMinutes(), HandoverDesk.NONE);
        Due.due("100 by 2", oneToPassOn(100, 2).leastMinutes(), 50);
        Due.due("20 by 20", oneToPassOn(20, 20).leastMinutes(), 1);
        Due.due("21 by 20", oneToPassOn(21, 20).leastMinutes(), 2);
        HandoverDesk known = oneToPassOn(50, 5);
        known.learn(1, 0, 49);
        Due.due("one is lacking", known.leastMinutes(), 1);
        known.learn(1, 0, 1);
        Due.due("none is lacking", known.leastMinutes(), 0);
    }

    private static void noneToMiss() {
        HandoverDesk desk = Due.calmDesk(2);
        Due.due("an empty checklist", desk.leastMinutes(), 0);
        desk.check(1);
        Due.due("nobody can pass it on", desk.leastMinutes(), HandoverDesk.NONE);
        desk.turn(1);
        Due.due("a closed one in it", desk.leastMinutes(), 0);
    }

    private static void ofTheShiftOfNow() {
        HandoverDesk desk = oneToPassOn(50, 5);
        for (int bought = 0; bought <= 60; bought += 30) {
            desk.minutes(0, bought);
            desk.minutes(1, 60 - bought);
            Due.due("whatever is bought", desk.leastMinutes(), 10);
            Due.due("what is bought stays", desk.place(0, 1), bought);
        }
    }

    private static void fromThePlaceElevenToThePlaceZero() {
        HandoverDesk desk = Due.calmDesk(1);
        for (int shift = 0; shift < 11; shift++) {
            desk.endShift();
        }
        desk.roster(0, 4);
        Due.teach(desk, 2, 100);
        desk.check(0);
        Due.due("to the worker of the place 0", desk.leastMinutes(), 10);
        desk.roster(0, 2);
        Due.due("who goes on", desk.leastMinutes(), 0);
    }

    private static void theSameWorkerGoesOn() {
        HandoverDesk desk = Due.calmDesk(1);
        desk.roster(1, 0);
        desk.check(0);
        desk.learn(0, 0, 49);
        Due.due("one below KNOWN", desk.leastMinutes(), HandoverDesk.NONE);
        desk.set(HandoverDesk.WORK, 1);
        Due.due("work brings it to KNOWN", desk.leastMinutes(), 0);
    }

    /** The same found out by buying the minutes and ending the shift, on a new desk each time. */
    private static int leastByTrying(Supplier<HandoverDesk> maker) {
        for (int minutes = 0; minutes <= 60; minutes++) {
            HandoverDesk desk = maker.get();
            desk.minutes(desk.count(0) % 12, minutes);
            if (desk.endShift() == 0) {
                return minutes;
            }
        }
        return HandoverDesk.NONE;
    }

    private static void asTheEndOfThisShiftWouldBe() {
        for (int many = 0; many < 40; many++) {
            int kind = many;
            Due.due("of the desk " + kind, mixed(kind).leastMinutes(), leastByTrying(() -> mixed(kind)));
        }
    }

    // ---- 20: lostIn

    private static HandoverDesk fading() {
        HandoverDesk desk = Due.calmDesk(1);
        desk.set(HandoverDesk.DECAY, 1);
        desk.set(HandoverDesk.KNOWN, 51);
        Due.teach(desk, 5, 100);
        return desk;
    }

    private static void oneToFiftyShifts() {
        HandoverDesk desk = fading();
        for (int shifts : Due.outside(1, 50)) {
            Due.due("lostIn(" + shifts + ")", desk.lostIn(shifts), HandoverDesk.BAD_VALUE);
        }
        Due.due("100 less 49 is known", desk.lostIn(49), 0);
        Due.due("100 less 50 is not", desk.lostIn(50), 1);
        desk.set(HandoverDesk.KNOWN, 99);
        Due.due("100 less 1 is known", desk.lostIn(1), 0);
        desk.set(HandoverDesk.KNOWN, 100);
        Due.due("100 less 1 is not", desk.lostIn(1), 1);
        Due.due("it is not lost now", desk.count(9), 0);
    }

    private static void lostOpenTopics() {
        HandoverDesk desk = Due.deskWith(10);
        desk.set(HandoverDesk.WORK, 0);
        desk.turn(4);
        Due.due("all open ones", desk.lostIn(50), 0b1111101111);
        HandoverDesk none = new HandoverDesk();
        Due.due("no topics", none.lostIn(1), 0);
        HandoverDesk away = Due.calmDesk(1);
        Due.teach(away, 5, 50);
        Due.due("an away one is not lost", away.lostIn(50), 0);
    }

    private static void lostAroundTheRoster() {
        HandoverDesk desk = Due.calmDesk(1);
        for (int shift = 0; shift < 11; shift++) {
            desk.endShift();
        }
        desk.set(HandoverDesk.DECAY, 50);
        Due.teach(desk, 5, 50);
        Due.due("away from the shift it decays", desk.lostIn(1), 1);
        desk.roster(0, 5);
        Due.due("on duty in the place 0 it does not", desk.lostIn(1), 0);
        desk.minutes(0, 9);
        Due.due("away again, after nine minutes that bring 45", desk.lostIn(2), 1);
        desk.minutes(0, 10);
        Due.due("ten bring 50", desk.lostIn(2), 0);
    }

    private static void asTheEndsWouldBring() {
        for (int kind = 0; kind < 10; kind++) {
            HandoverDesk ended = mixed(kind);
            for (int shifts = 1; shifts <= 50; shifts++) {
                ended.endShift();
                Due.due("lostIn(" + shifts + ") of the desk " + kind, mixed(kind).lostIn(shifts), ended.count(9));
            }
        }
    }

    // ---- 21: bestSplit

    private static void split(String when, HandoverDesk desk, int total, int... best) {
        for (int what = 0; what <= 3; what++) {
            Due.due(when + ": bestSplit(" + total + ", " + what + ")", desk.bestSplit(total, what), best[what]);
        }
    }

    private static void splitOutOfRange() {
        HandoverDesk desk = oneToPassOn(50, 5);
        for (int total : Due.outside(0, 40)) {
            Due.due("bestSplit(" + total + ", 0)", desk.bestSplit(total, 0), HandoverDesk.BAD_VALUE);
            Due.due("bestSplit(" + total + ", 4)", desk.bestSplit(total, 4), HandoverDesk.BAD_VALUE);
        }
        for (int what : Due.outside(0, 3)) {
            Due.due("bestSplit(0, " + what + ")", desk.bestSplit(0, what), HandoverDesk.BAD_VALUE);
            Due.due("bestSplit(40, " + what + ")", desk.bestSplit(40, what), HandoverDesk.BAD_VALUE);
        }
    }

    private static void noMinutesAndAllOfThem() {
        split("none", oneToPassOn(50, 5), 0, 2, 0, 0, 0);
        split("one too few", oneToPassOn(50, 5), 9, 2, 0, 0, 9);
        split("for the first end", oneToPassOn(50, 5), 10, 1, 10, 0, 0);
        split("one too few for two", oneToPassOn(50, 5), 19, 1, 10, 0, 9);
        split("for two ends", oneToPassOn(50, 5), 20, 0, 10, 10, 0);
        split("the most", oneToPassOn(50, 5), 40, 0, 10, 10, 20);
        split("all of the most for one", oneToPassOn(40, 1), 40, 1, 40, 0, 0);
        split("all of the most are too few", oneToPassOn(41, 1), 40, 2, 0, 0, 40);
    }

    private static void theFewestAtTheFirstEnd() {
        HandoverDesk nothing = new HandoverDesk();
        split("no topics", nothing, 40, 0, 0, 0, 40);
        HandoverDesk all = Due.calmDesk(10);
        for (int topic = 0; topic < 10; topic++) {
            all.check(topic);
        }
        split("all are missed each time", all, 40, 30, 0, 0, 40);
        HandoverDesk second = oneToPassOn(50, 5);
        second.roster(1, 0);
        split("the same worker goes on first", second, 10, 0, 0, 10, 0);
        HandoverDesk third = oneToPassOn(50, 5);
        third.roster(1, 0);
        third.roster(2, 0);
        third.roster(3, 4);
        split("only the third end is a handover", third, 10, 0, 0, 0, 10);
    }

    private static void theFewestAtTheSecondEnd() {
        HandoverDesk desk = oneToPassOn(50, 5);
        split("10 for the first two, the rest wherever", desk, 30, 0, 10, 10, 10);
        desk.roster(2, 1);
        desk.roster(3, 4);
        split("10 for the first and the third, the rest wherever", desk, 25, 0, 10, 0, 15);
    }

    private static void allAreGivenOut() {
        for (int total = 0; total <= 40; total++) {
            HandoverDesk desk = mixed(total);
            int given = 0;
            for (int what = 1; what <= 3; what++) {
                int minutes = desk.bestSplit(total, what);
                Due.holds("from 0 to " + total, minutes >= 0 && minutes <= total);
                given += minutes;
            }
            Due.due("given out", given, total);
        }
    }

    private static void insteadOfWhatIsBought() {
        HandoverDesk desk = oneToPassOn(50, 5);
        for (int place = 0; place < 12; place++) {
            desk.minutes(place, 60);
        }
        split("60 are bought for each", desk, 0, 2, 0, 0, 0);
        Due.due("what is bought stays", desk.place(0, 1), 60);
        Due.due("for the third end, too", desk.place(2, 1), 60);
    }

    private static void splitAroundTheRoster() {
        for (int ended = 9; ended <= 12; ended++) {
            HandoverDesk desk = Due.calmDesk(1);
            for (int shift = 0; shift < ended; shift++) {
                desk.endShift();
            }
            Due.teach(desk, ended % 3, 100);
            desk.check(0);
            split("from the shift " + ended, desk, 20, 0, 10, 10, 0);
        }
    }

    private static void severalTopics() {
        HandoverDesk desk = Due.calmDesk(3);
        Due.teach(desk, 0, 100, 100, 100);
        for (int topic = 0; topic < 3; topic++) {
            desk.check(topic);
        }
        // At the third end the worker 0 goes on with all of them.
        split("too few for one", desk, 9, 6, 0, 0, 9);
        split("for one", desk, 10, 5, 10, 0, 0);
        split("for one, twice", desk, 20, 4, 10, 10, 0);
        split("for two and one", desk, 30, 3, 20, 10, 0);
        split("for two, twice", desk, 40, 2, 20, 20, 0);
    }

    /** The same found out by buying the minutes and ending three shifts, on a new desk each time. */
    private static int[] splitByTrying(Supplier<HandoverDesk> maker, int total) {
        int[] best = {Integer.MAX_VALUE, 0, 0, 0};
        for (int first = 0; first <= total; first++) {
            for (int second = 0; second <= total - first; second++) {
                int[] tried = {0, first, second, total - first - second};
                HandoverDesk desk = maker.get();
                for (int end = 1; end <= 3; end++) {
                    desk.minutes(desk.count(0) % 12, tried[end]);
                    tried[0] += desk.endShift();
                }
                if (tried[0] < best[0]) {
                    best = tried;
                }
            }
        }
        return best;
    }

    private static void theFewestMisses() {
        int[] totals = {0, 1, 2, 7, 14, 23, 31, 40};
        for (int many = 0; many < 24; many++) {
            int kind = many;
            int total = totals[kind % totals.length];
            split("desk " + kind, mixed(kind), total, splitByTrying(() -> mixed(kind), total));
        }
    }

    /** Desks of all kinds, the same one for the same number. */
    private static HandoverDesk mixed(int kind) {
        int[] seed = {kind * 7919 + 17};
        HandoverDesk desk = Due.deskWith(1 + drawn(seed, 10));
        int topics = desk.count(2);
        desk.set(HandoverDesk.KNOWN, 20 + drawn(seed, 60));
        desk.set(HandoverDesk.PASS, 1 + drawn(seed, 20));
        desk.set(HandoverDesk.DECAY, drawn(seed, 30));
        desk.set(HandoverDesk.WORK, drawn(seed, 15));
        for (int times = 2 * topics; times > 0; times--) {
            desk.learn(drawn(seed, 6), drawn(seed, topics), 1 + drawn(seed, 100));
        }
        for (int place = 0; place < 12; place++) {
            desk.roster(place, drawn(seed, 6));
            desk.minutes(place, drawn(seed, 30));
        }
        for (int times = drawn(seed, topics + 1); times > 0; times--) {
            desk.check(drawn(seed, topics));
        }
        if (drawn(seed, 3) == 0) {
            desk.turn(drawn(seed, topics));
        }
        for (int ended = drawn(seed, 14); ended > 0; ended--) {
            desk.endShift();
        }
        return desk;
    }

    private static int drawn(int[] seed, int bound) {
        seed[0] = seed[0] * 1103515245 + 12345;
        return (seed[0] >>> 16) % bound;
    }

    // ---- nothing changes

    private static void nothingChanges() {
        Due.unchangedBy("leastMinutes()", HandoverDesk::leastMinutes);
        Due.unchangedBy("lostIn(1)", desk -> desk.lostIn(1));
        Due.unchangedBy("lostIn(50)", desk -> desk.lostIn(50));
        Due.unchangedBy("bestSplit(0, 0)", desk -> desk.bestSplit(0, 0));
        Due.unchangedBy("bestSplit(40, 3)", desk -> desk.bestSplit(40, 3));
        HandoverDesk desk = Due.busyDesk();
        int[] once = {desk.leastMinutes(), desk.lostIn(13), desk.bestSplit(40, 1)};
        int[] again = {desk.leastMinutes(), desk.lostIn(13), desk.bestSplit(40, 1)};
        Due.holds("the same answers twice", Arrays.equals(once, again));
    }

    private static void promiseNineteen() {
        Due.sentence("Finds the least overlap minutes, 0 to 60,", WhatIfBoundaryTest::zeroToSixty);
        Due.sentence("with which the end of this shift would bring no miss.", WhatIfBoundaryTest::noneToMiss);
        Due.sentence("of the shift of now", WhatIfBoundaryTest::ofTheShiftOfNow);
        Due.sentence("of the shift of now", WhatIfBoundaryTest::fromThePlaceElevenToThePlaceZero);
        Due.sentence("Returns the minutes; NONE if there are none.", WhatIfBoundaryTest::theSameWorkerGoesOn);
        Due.sentence("the end of this shift would bring no miss", WhatIfBoundaryTest::asTheEndOfThisShiftWouldBe);
    }

    private static void promiseTwenty() {
        Due.sentence("Returns the set; BAD_VALUE if shifts is out of range.", WhatIfBoundaryTest::oneToFiftyShifts);
        String lost = "Returns the open topics that would be lost, if only shifts ended.";
        Due.sentence(lost, WhatIfBoundaryTest::lostOpenTopics);
        Due.sentence(lost, WhatIfBoundaryTest::lostAroundTheRoster);
        Due.sentence(lost, WhatIfBoundaryTest::asTheEndsWouldBring);
    }

    private static void promiseTwentyOne() {
        Due.sentence("Returns the number; BAD_VALUE if an argument is out of range.", WhatIfBoundaryTest::splitOutOfRange);
        Due.sentence("- `total`: 0 to 40", WhatIfBoundaryTest::noMinutesAndAllOfThem);
        Due.sentence("of several ways the one with the fewest minutes at the first end,",
                WhatIfBoundaryTest::theFewestAtTheFirstEnd);
        Due.sentence("of these the one with the fewest at the second one.", WhatIfBoundaryTest::theFewestAtTheSecondEnd);
        Due.sentence("All minutes are given out, at most 60 for each end.", WhatIfBoundaryTest::allAreGivenOut);
        String ends = "Splits minutes over the ends of this shift and the two next ones,";
        Due.sentence(ends, WhatIfBoundaryTest::insteadOfWhatIsBought);
        Due.sentence(ends, WhatIfBoundaryTest::splitAroundTheRoster);
        String fewest = "so that they together bring the fewest misses;";
        Due.sentence(fewest, WhatIfBoundaryTest::severalTopics);
        Due.sentence(fewest, WhatIfBoundaryTest::theFewestMisses);
        Due.sentence("---- what if; nothing changes.", WhatIfBoundaryTest::nothingChanges);
    }

    public static void main(String[] args) {
        promiseNineteen();
        promiseTwenty();
        promiseTwentyOne();
        Due.end();
    }
}
