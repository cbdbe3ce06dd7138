/** Long runs of mixed calls, each answer beside that of PlainDesk; the same runs every time. */
public final class ModelTest {
    private static final int RUNS = 500;
    private static final int CALLS = 512;
    /** A text is put by more than one call, but never by more than these. */
    private static final int AT_ONCE = 10;
    private static final int WRITE = 20;
    private static final int[] WEIGHTS = {6, 5, 4, 5, 3, 8, 14, 6, 12, 6, 10, 3, 10, 3, 3, 4, 4, 3, 3, 1, 10, 1, 4, 6, 6, 2, 2};

    private final long[] seed;
    private int made = 0;
    private final HandoverDesk desk = new HandoverDesk();
    private final PlainDesk plain = new PlainDesk();

    private ModelTest(int run) {
        seed = new long[] {run * 7919L + 13};
    }

    private int below(int bound) {
        seed[0] = seed[0] * 6364136223846793005L + 1442695040888963407L;
        return (int) ((seed[0] >>> 33) % bound);
    }

    /** Mostly a number from least to most, sometimes one beside the range or far from it. */
    private int about(int least, int most) {
        int kind = below(40);
        if (kind == 0) {
            return least - 1;
        }
        if (kind == 1) {
            return most + 1;
        }
        if (kind == 2) {
            return new int[] {Integer.MIN_VALUE, Integer.MAX_VALUE, -1, -6, 1 << 16, 256}[below(6)];
        }
        if (kind < 6) {
            return kind % 2 == 0 ? least : most;
        }
        return least + below(most - least + 1);
    }

    private int topic() {
        return about(0, Math.max(0, plain.count(2) - 1));
    }

    private String order() {
        String number = Integer.toString(below(4) == 0 ? below(1100) : below(70));
        String[] orders = {"o", "x" + below(10), "k" + below(10), "c" + below(10),
            "l" + below(6) + "." + below(10) + "+" + number, "l" + below(6) + "." + below(3) + "+" + (1 + below(99)),
            "r" + below(13) + "=" + below(6), "m" + below(12) + "=" + number, "e", "e"};
        return orders[below(orders.length)];
    }

    private String text() {
        StringBuilder text = new StringBuilder(order());
        for (int more = below(4); more > 0; more--) {
            text.append(';').append(order());
        }
        if (below(5) == 0) {
            String signs = "oxkclrme;.+=0123456789!~";
            text.setCharAt(below(text.length()), signs.charAt(below(signs.length())));
        }
        if (below(9) == 0) {
            text.setLength(1 + below(text.length()));
        }
        return text.toString();
    }

    private void write() {
        String text = (plain.count(17) > 0 && below(4) > 0 ? ";" : "") + text();
        for (int from = 0; from < text.length(); from += 8) {
            long number = Due.packed(text.substring(from, Math.min(text.length(), from + 8)));
            if (below(60) == 0) {
                number ^= 1L << below(64);
            }
            Due.due("put(" + number + ")", desk.put(number), plain.put(number));
            made++;
        }
    }

    private void answers(int method) {
        int a = 0;
        int b = 0;
        int c = 0;
        switch (method) {
            case 0: a = about(0, 5); b = about(a == 0 ? 1 : 0, new int[] {100, 20, 50, 20, 99, 999}[Math.floorMod(a, 6)]);
                Due.due("set(" + a + ", " + b + ")", desk.set(a, b), plain.set(a, b)); break;
            case 1: a = about(0, 11); b = about(0, 5);
                Due.due("roster(" + a + ", " + b + ")", desk.roster(a, b), plain.roster(a, b)); break;
            case 2: a = about(0, 11); b = about(0, 60);
                Due.due("minutes(" + a + ", " + b + ")", desk.minutes(a, b), plain.minutes(a, b)); break;
            case 3: Due.due("open()", desk.open(), plain.open()); break;
            case 4: a = topic(); Due.due("turn(" + a + ")", desk.turn(a), plain.turn(a)); break;
            case 5: a = topic(); Due.due("check(" + a + ")", desk.check(a), plain.check(a)); break;
            case 6: a = about(0, 5); b = topic(); c = about(1, 100);
                Due.due("learn(" + a + ", " + b + ", " + c + ")", desk.learn(a, b, c), plain.learn(a, b, c)); break;
            case 7: a = topic(); Due.due("call(" + a + ")", desk.call(a), plain.call(a)); break;
            case 8: Due.due("endShift()", desk.endShift(), plain.endShift()); break;
            case 9: a = about(0, 5); b = topic();
                Due.due("level(" + a + ", " + b + ")", desk.level(a, b), plain.level(a, b)); break;
            case 10: a = topic(); b = about(0, 6);
                Due.due("ofTopic(" + a + ", " + b + ")", desk.ofTopic(a, b), plain.ofTopic(a, b)); break;
            case 11: a = about(0, 9); Due.due("checklist(" + a + ")", desk.checklist(a), plain.checklist(a)); break;
            case 12: a = about(0, 18); Due.due("count(" + a + ")", desk.count(a), plain.count(a)); break;
            case 13: a = about(0, 11); b = about(0, 1);
                Due.due("place(" + a + ", " + b + ")", desk.place(a, b), plain.place(a, b)); break;
            case 14: Due.due("inOrder()", desk.inOrder(), plain.inOrder()); break;
            case 15: a = topic(); Due.due("share(" + a + ")", desk.share(a), plain.share(a)); break;
            case 16: a = about(0, 5); Due.due("mean(" + a + ")", desk.mean(a), plain.mean(a)); break;
            default: answersOfTheRest(method); break;
        }
    }

    private void answersOfTheRest(int method) {
        int a = 0;
        int b = 0;
        switch (method) {
            case 17: Due.due("leastMinutes()", desk.leastMinutes(), plain.leastMinutes()); break;
            case 18: a = about(1, 50); Due.due("lostIn(" + a + ")", desk.lostIn(a), plain.lostIn(a)); break;
            case 19: a = about(0, 40); b = about(0, 3);
                Due.due("bestSplit(" + a + ", " + b + ")", desk.bestSplit(a, b), plain.bestSplit(a, b)); break;
            case WRITE: write(); break;
            case 21: Due.due("wipe()", desk.wipe(), plain.wipe()); break;
            case 22: Due.due("fault()", desk.fault(), plain.fault()); break;
            case 23: Due.due("carryOut()", desk.carryOut(), plain.carryOut()); break;
            case 24: Due.due("undo()", desk.undo(), plain.undo()); break;
            case 25: a = about(0, 1); Due.due("save(" + a + ")", desk.save(a), plain.save(a)); break;
            default: a = about(0, 1); Due.due("restore(" + a + ")", desk.restore(a), plain.restore(a)); break;
        }
    }

    /** A pad with a fault is never carried out: it is wiped now and then, so that runs go on. */
    private void keepPadUseful() {
        if (plain.fault() != -6 && below(5) == 0) {
            Due.due("wipe()", desk.wipe(), plain.wipe());
            made++;
        }
    }

    private boolean run() {
        int sum = 0;
        for (int weight : WEIGHTS) {
            sum += weight;
        }
        while (made < CALLS - AT_ONCE && Due.wrong() == 0) {
            int drawn = below(sum);
            int method = 0;
            while (drawn >= WEIGHTS[method]) {
                drawn -= WEIGHTS[method];
                method++;
            }
            answers(method);
            made += method == WRITE ? 0 : 1;
            keepPadUseful();
        }
        return Due.wrong() == 0;
    }

    public static void main(String[] args) {
        for (int run = 1; run <= RUNS; run++) {
            if (!new ModelTest(run).run()) {
                System.out.println("that was in run " + run);
                break;
            }
        }
        Due.end();
    }
}
