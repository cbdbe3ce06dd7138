/** Promises 11 to 18: what there is. */
public final class ViewsTest {
    private static void level() {
        HandoverDesk desk = Due.deskWith(2);
        desk.learn(5, 1, 33);
        Due.due("level(5, 1)", desk.level(5, 1), 33);
        Due.due("level(5, 0)", desk.level(5, 0), 0);
        Due.due("level(0, 1)", desk.level(0, 1), 0);
        desk.turn(1);
        Due.due("of a closed one", desk.level(5, 1), 33);
        Due.due("level(6, 0)", desk.level(6, 0), HandoverDesk.NO_SUCH);
        Due.due("level(-1, 0)", desk.level(-1, 0), HandoverDesk.NO_SUCH);
        Due.due("level(0, 2)", desk.level(0, 2), HandoverDesk.NO_SUCH);
        Due.due("level(0, -1)", desk.level(0, -1), HandoverDesk.NO_SUCH);
        Due.due("level(MIN, MAX)", desk.level(Integer.MIN_VALUE, Integer.MAX_VALUE), HandoverDesk.NO_SUCH);
    }

    private static void ofTopic() {
        HandoverDesk desk = Due.deskWith(4);
        desk.learn(0, 0, 50);
        desk.learn(0, 1, 49);
        desk.learn(4, 1, 50);
        desk.learn(5, 1, 50);
        desk.learn(5, 2, 49);
        desk.check(2);
        desk.check(0);
        int[] how = {0, 1, 2, 2};
        int[] places = {1, HandoverDesk.NONE, 0, HandoverDesk.NONE};
        int[] greatest = {0, 4, 5, 0};
        for (int topic = 0; topic < 4; topic++) {
            Due.due("ofTopic(" + topic + ", 0)", desk.ofTopic(topic, 0), 1);
            Due.due("ofTopic(" + topic + ", 1)", desk.ofTopic(topic, 1), how[topic]);
            Due.due("ofTopic(" + topic + ", 2)", desk.ofTopic(topic, 2), places[topic]);
            Due.due("ofTopic(" + topic + ", 3)", desk.ofTopic(topic, 3), greatest[topic]);
        }
        desk.turn(2);
        Due.due("a closed one is not open", desk.ofTopic(2, 0), 0);
        Due.due("how it is: none", desk.ofTopic(2, 1), HandoverDesk.NONE);
        Due.due("it keeps its place", desk.ofTopic(2, 2), 0);
        Due.due("the one behind it, too", desk.ofTopic(0, 2), 1);
        Due.due("who has the greatest level", desk.ofTopic(2, 3), 5);
        desk.endShift();
        Due.due("ofTopic(0, 4)", desk.ofTopic(0, 4), 0);
        Due.due("ofTopic(0, 5)", desk.ofTopic(0, 5), 1);
        Due.due("ofTopic(0, 6)", desk.ofTopic(0, 6), 1);
        Due.due("ofTopic(0, 7)", desk.ofTopic(0, 7), HandoverDesk.BAD_VALUE);
        Due.due("ofTopic(0, -1)", desk.ofTopic(0, -1), HandoverDesk.BAD_VALUE);
        Due.due("ofTopic(4, 0)", desk.ofTopic(4, 0), HandoverDesk.NO_SUCH);
        Due.due("ofTopic(-1, 0)", desk.ofTopic(-1, 0), HandoverDesk.NO_SUCH);
        Due.due("the topic is looked at first", desk.ofTopic(4, 7), HandoverDesk.NO_SUCH);
    }

    private static void checklist() {
        HandoverDesk desk = Due.deskWith(10);
        desk.check(7);
        desk.check(0);
        Due.due("checklist(0)", desk.checklist(0), 7);
        Due.due("checklist(1)", desk.checklist(1), 0);
        Due.due("checklist(2)", desk.checklist(2), HandoverDesk.NO_SUCH);
        Due.due("checklist(-1)", desk.checklist(-1), HandoverDesk.NO_SUCH);
        desk.turn(7);
        Due.due("closed ones stay in it", desk.checklist(0), 7);
        Due.due("checklist(MAX)", desk.checklist(Integer.MAX_VALUE), HandoverDesk.NO_SUCH);
    }

    private static void count() {
        HandoverDesk desk = Due.deskWith(10);
        desk.turn(1);
        desk.turn(2);
        desk.learn(0, 0, 50);
        desk.learn(3, 9, 50);
        desk.learn(3, 1, 50);
        Due.due("lost ones", desk.count(9), 0b0111111000);
        Due.due("away ones", desk.count(10), 0b1000000000);
        Due.due("topics", desk.count(2), 10);
        Due.due("open ones", desk.count(3), 8);
        desk.roster(0, 3);
        Due.due("away from another one", desk.count(10), 0b0000000001);
        Due.due("lost as before", desk.count(9), 0b0111111000);
        Due.write(desk, "abc");
        Due.due("the pad", desk.count(17), 3);
        Due.due("count(18)", desk.count(18), 6);
        Due.due("count(19)", desk.count(19), HandoverDesk.BAD_VALUE);
        Due.due("count(-1)", desk.count(-1), HandoverDesk.BAD_VALUE);
        Due.due("count(MIN)", desk.count(Integer.MIN_VALUE), HandoverDesk.BAD_VALUE);
        Due.due("count(MAX)", desk.count(Integer.MAX_VALUE), HandoverDesk.BAD_VALUE);
    }

    private static void place() {
        HandoverDesk desk = new HandoverDesk();
        desk.roster(11, 4);
        desk.minutes(11, 59);
        Due.due("place(11, 0)", desk.place(11, 0), 4);
        Due.due("place(11, 1)", desk.place(11, 1), 59);
        Due.due("place(12, 0)", desk.place(12, 0), HandoverDesk.BAD_VALUE);
        Due.due("place(-1, 0)", desk.place(-1, 0), HandoverDesk.BAD_VALUE);
        Due.due("place(0, 2)", desk.place(0, 2), HandoverDesk.BAD_VALUE);
        Due.due("place(0, -1)", desk.place(0, -1), HandoverDesk.BAD_VALUE);
    }

    private static void inOrder() {
        HandoverDesk desk = new HandoverDesk();
        Due.due("without topics", desk.inOrder(), 0);
        for (int topic = 0; topic < 5; topic++) {
            desk.open();
            if (topic != 0 && topic != 3) {
                desk.learn(0, topic, 50);
            }
        }
        Due.due("the first one is not", desk.inOrder(), 0);
        desk.turn(0);
        Due.due("closed ones do not matter", desk.inOrder(), 2);
        desk.turn(3);
        Due.due("all are", desk.inOrder(), 3);
        desk.roster(0, 1);
        Due.due("for another one none", desk.inOrder(), 0);
    }

    /** The worker 0 knows the topic, the worker 1 does not; the shifts ended begin as the roster says. */
    private static HandoverDesk begun(int known, int unknown) {
        HandoverDesk desk = Due.deskWith(1);
        desk.set(HandoverDesk.WORK, 0);
        desk.set(HandoverDesk.DECAY, 0);
        desk.learn(0, 0, 50);
        for (int shift = 0; shift < known + unknown; shift++) {
            desk.minutes(shift % 12, 0);
            desk.roster((shift + 1) % 12, shift < known ? 0 : 1);
            desk.endShift();
        }
        return desk;
    }

    private static void share() {
        HandoverDesk desk = Due.deskWith(1);
        Due.due("never begun with", desk.share(0), HandoverDesk.NONE);
        Due.due("share(1)", desk.share(1), HandoverDesk.NO_SUCH);
        Due.due("share(-1)", desk.share(-1), HandoverDesk.NO_SUCH);
        for (int known = 0; known <= 20; known++) {
            for (int unknown = 0; unknown <= 40; unknown++) {
                if (known + unknown > 0) {
                    int due = Float.floatToIntBits((float) ((double) known / (known + unknown)));
                    Due.due("share of " + known + " beside " + unknown, begun(known, unknown).share(0), due);
                }
            }
        }
        Due.due("one of 120", begun(1, 119).share(0), Float.floatToIntBits((float) (1 / 120.0)));
        HandoverDesk closed = begun(2, 1);
        closed.turn(0);
        Due.due("of a closed one", closed.share(0), Float.floatToIntBits((float) (2 / 3.0)));
    }

    /** The worker 2 has all of each topic but the last one. */
    private static HandoverDesk allButTheLast(int topics, int levelOfTheLast) {
        HandoverDesk desk = Due.deskWith(topics);
        for (int topic = 0; topic < topics; topic++) {
            desk.learn(2, topic, topic < topics - 1 ? 100 : levelOfTheLast);
        }
        return desk;
    }

    private static void mean() {
        Due.due("without topics", new HandoverDesk().mean(0), 0);
        for (int topics = 1; topics <= 10; topics++) {
            for (int level = 1; level <= 100; level++) {
                int sum = 100 * (topics - 1) + level;
                Due.due(sum + " over " + topics, allButTheLast(topics, level).mean(2), Double.doubleToLongBits((double) sum / topics));
            }
        }
        HandoverDesk desk = allButTheLast(10, 100);
        Due.due("all are 100", desk.mean(2), Double.doubleToLongBits(100.0));
        Due.due("none", desk.mean(3), 0);
        desk.learn(3, 4, 1);
        Due.due("1 over 10", desk.mean(3), Double.doubleToLongBits(0.1));
        desk.turn(0);
        Due.due("1 over 9", desk.mean(3), Double.doubleToLongBits(1 / 9.0));
        desk.turn(4);
        Due.due("closed ones do not count", desk.mean(3), 0);
        Due.due("mean(6)", desk.mean(6), HandoverDesk.NO_SUCH);
        Due.due("mean(-1)", desk.mean(-1), HandoverDesk.NO_SUCH);
        for (int topic = 0; topic < 10; topic++) {
            if (topic != 0 && topic != 4) {
                desk.turn(topic);
            }
        }
        Due.due("all are closed", desk.mean(2), 0);
        Due.due("all are closed, no such worker", desk.mean(6), HandoverDesk.NO_SUCH);
    }

    public static void main(String[] args) {
        level();
        ofTopic();
        checklist();
        count();
        place();
        inOrder();
        share();
        mean();
        Due.end();
    }
}
