import java.lang.management.ManagementFactory;

/** All calls of a run live in one room: what a call makes stays, so the calls make nothing, and a desk makes little. */
public final class RoomTest {
    private static final com.sun.management.ThreadMXBean THREADS =
            (com.sun.management.ThreadMXBean) ManagementFactory.getThreadMXBean();
    private static final long READY_TEXT = Due.packed("l2.0+9;e");

    private static long bytes() {
        return THREADS.getCurrentThreadAllocatedBytes();
    }

    private static long everyMethod(HandoverDesk desk, int turn) {
        long sum = desk.set(turn % 6, 20) + desk.roster(turn % 12, turn % 6) + desk.minutes(turn % 12, turn % 61) + desk.open()
                + desk.turn(turn % 10) + desk.check(turn % 10) + desk.learn(turn % 6, turn % 10, 40) + desk.call(turn % 10)
                + desk.endShift() + desk.level(0, 0) + desk.ofTopic(0, 1) + desk.checklist(0) + desk.count(9) + desk.place(0, 0)
                + desk.inOrder() + desk.share(0) + desk.mean(0) + desk.leastMinutes() + desk.lostIn(50) + desk.bestSplit(40, 0)
                + desk.put(READY_TEXT) + desk.fault() + desk.carryOut() + desk.put('!') + desk.wipe() + desk.undo()
                + desk.save(turn % 2) + desk.restore(turn % 2);
        return sum;
    }

    public static void main(String[] args) {
        everyMethod(new HandoverDesk(), 0);
        bytes();
        long before = bytes();
        HandoverDesk desk = new HandoverDesk();
        long made = bytes() - before;
        Due.holds("a desk is at most 40,000 bytes: " + made, made <= 40_000);
        before = bytes();
        for (int turn = 0; turn < 18; turn++) {
            everyMethod(desk, turn);
        }
        long used = bytes() - before;
        Due.holds("504 calls make next to nothing: " + used, used <= 2_000);
        Due.end();
    }
}
