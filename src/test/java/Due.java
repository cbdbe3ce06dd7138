import java.io.IOException;
import java.nio.file.Files;
import java.nio.file.Path;
import java.util.function.Consumer;
import java.util.function.Supplier;

/** Counts and prints the answers that are not as due; each test is a main method that ends with end(). */
final class Due {
    private static final Path DOCUMENT = Path.of("../shared/DOC.md");

    private static int asked = 0;
    private static int wrong = 0;
    private static int sentences = 0;
    private static String sentence = "";
    private static String document = "";

    private Due() { }

    static void due(String call, long got, long want) {
        asked++;
        if (got != want) {
            tell(call + " answered " + got + ", due is " + want);
        }
    }

    static void holds(String what, boolean does) {
        asked++;
        if (!does) {
            tell("does not hold: " + what);
        }
    }

    private static void tell(String what) {
        wrong++;
        System.out.println(sentence.isEmpty() ? what : what + "  (\"" + sentence + "\")");
    }

    /** Runs the test of one sentence of the document; the words are told with each answer that is not as due. */
    static void sentence(String words, Runnable test) {
        // A document in new words does not make the program wrong, but someone has to look at the test again.
        if (!document().contains(words)) {
            System.out.println("note: the document no longer says \"" + words + "\"");
        }
        int before = asked;
        sentence = words;
        test.run();
        holds("something was asked", asked > before);
        sentence = "";
        sentences++;
    }

    private static String document() {
        if (document.isEmpty()) {
            try {
                document = Files.readString(DOCUMENT);
            } catch (IOException e) {
                document = "The document cannot be read.";
            }
        }
        return document;
    }

    /** Numbers out of a range: those beside it, and those far from it, also with the lowest bits of one in it. */
    static int[] outside(int least, int most) {
        return new int[] {least - 1, least - 2, least - 256, least - 65536, Integer.MIN_VALUE, Integer.MIN_VALUE + most,
            most + 1, most + 2, least + 256 * (most + 1), least + 65536 * (most + 1), Integer.MAX_VALUE};
    }

    static int wrong() {
        return wrong;
    }

    /** The number by which put() is given up to eight characters. */
    static long packed(String text) {
        long number = 0;
        for (int i = 0; i < text.length(); i++) {
            number = number << 8 | text.charAt(i);
        }
        return number;
    }

    /** Puts a text of any length, eight characters at a time. */
    static void write(HandoverDesk desk, String text) {
        for (int from = 0; from < text.length(); from += 8) {
            desk.put(packed(text.substring(from, Math.min(text.length(), from + 8))));
        }
    }

    /** All that a desk tells of its state, but for the pad and how much can be undone; up to some 200 calls. */
    static String told(HandoverDesk desk) {
        StringBuilder all = new StringBuilder();
        for (int what = 0; what <= 16; what++) {
            all.append(desk.count(what)).append(' ');
        }
        for (int place = 0; place < 12; place++) {
            all.append(desk.place(place, 0)).append('/').append(desk.place(place, 1)).append(' ');
            all.append(desk.checklist(place)).append(' ');
        }
        int topics = desk.count(2);
        for (int topic = 0; topic < topics; topic++) {
            for (int what = 0; what <= 6; what++) {
                all.append(desk.ofTopic(topic, what)).append(' ');
            }
            for (int worker = 0; worker < 6; worker++) {
                all.append(desk.level(worker, topic)).append(' ');
            }
            all.append(desk.share(topic)).append(' ');
        }
        for (int worker = 0; worker < 6; worker++) {
            all.append(desk.mean(worker)).append(' ');
        }
        return all.append(desk.inOrder()).toString();
    }

    /**
     * All that can be found out about the desks that the maker makes, with the pad, the slots and each state of the
     * history; always on a new one, as a desk is used for at most 512 calls.
     */
    static String everything(Supplier<HandoverDesk> maker) {
        StringBuilder all = new StringBuilder();
        for (int undone = 0; undone <= 6; undone++) {
            HandoverDesk desk = maker.get();
            for (int i = 0; i < undone; i++) {
                all.append(desk.undo()).append(' ');
            }
            all.append(told(desk)).append('\n');
        }
        for (int slot = 0; slot <= 1; slot++) {
            HandoverDesk desk = maker.get();
            all.append(desk.restore(slot)).append(' ').append(told(desk)).append('\n');
        }
        HandoverDesk desk = maker.get();
        all.append(desk.count(17)).append(' ').append(desk.count(18)).append(' ').append(desk.fault()).append(' ');
        // What stands on the pad is seen when it is carried out; a text that lacks a number gets one.
        all.append(desk.put('5')).append(' ').append(desk.carryOut()).append(' ').append(told(desk));
        return all.toString();
    }

    /** A desk with so many open topics. */
    static HandoverDesk deskWith(int topics) {
        HandoverDesk desk = new HandoverDesk();
        for (int topic = 0; topic < topics; topic++) {
            desk.open();
        }
        return desk;
    }

    /** One on which levels change by nothing but learning, calls and overlap minutes. */
    static HandoverDesk calmDesk(int topics) {
        HandoverDesk desk = deskWith(topics);
        desk.set(HandoverDesk.WORK, 0);
        desk.set(HandoverDesk.DECAY, 0);
        return desk;
    }

    /** Makes the levels of a worker for the topics from 0 on; they are 0 before. */
    static void teach(HandoverDesk desk, int worker, int... levels) {
        for (int topic = 0; topic < levels.length; topic++) {
            if (levels[topic] > 0) {
                desk.learn(worker, topic, levels[topic]);
            }
        }
    }

    /** The levels of a worker for the topics from 0 on. */
    static void levels(String when, HandoverDesk desk, int worker, int... levels) {
        for (int topic = 0; topic < levels.length; topic++) {
            due(when + ": level(" + worker + ", " + topic + ")", desk.level(worker, topic), levels[topic]);
        }
    }

    /** Ten topics, one closed, a checklist of three, a slot, six changes to undo, and a text without its last number. */
    static HandoverDesk busyDesk() {
        HandoverDesk desk = deskWith(10);
        teach(desk, 0, 60);
        teach(desk, 1, 0, 55);
        teach(desk, 4, 0, 0, 70);
        desk.check(3);
        desk.check(0);
        desk.check(2);
        desk.turn(9);
        desk.save(0);
        desk.endShift();
        desk.call(2);
        desk.set(HandoverDesk.COST, 7);
        desk.roster(5, 4);
        desk.minutes(5, 44);
        desk.learn(5, 5, 5);
        write(desk, "e;".repeat(35) + "l0.1+");
        return desk;
    }

    /** On a desk where each change would be seen. */
    static void unchangedBy(String call, Consumer<HandoverDesk> caller) {
        String after = everything(() -> {
            HandoverDesk desk = busyDesk();
            caller.accept(desk);
            return desk;
        });
        holds(call + " changes nothing", everything(Due::busyDesk).equals(after));
    }

    static void end() {
        if (sentences > 0) {
            System.out.println(sentences + " sentences of the document were tested");
        }
        System.out.println(wrong == 0 ? asked + " answers are as due" : wrong + " of " + asked + " answers are not as due");
        if (wrong != 0) {
            System.exit(1);
        }
    }
}
