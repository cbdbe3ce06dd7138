/** Counts and prints the answers that are not as due; each test is a main method that ends with end(). */
final class Due {
    private static int asked = 0;
    private static int wrong = 0;

    private Due() { }

    static void due(String call, long got, long want) {
        asked++;
        if (got != want) {
            wrong++;
            System.out.println(call + " answered " + got + ", due is " + want);
        }
    }

    static void holds(String what, boolean does) {
        asked++;
        if (!does) {
            wrong++;
            System.out.println("does not hold: " + what);
        }
    }

    static int wrong() {
        return wrong;
    }

    /** The number by which put() is given up to eight characters. */
    static long packed(String text) {
        long number = 0;
        for (int i = 0; i < text.length(); i++) {
            number = number << 8 | text.charAt(i);
        }
        return number;
    }

    /** Puts a text of any length, eight characters at a time. */
    static void write(HandoverDesk desk, String text) {
        for (int from = 0; from < text.length(); from += 8) {
            desk.put(packed(text.substring(from, Math.min(text.length(), from + 8))));
        }
    }

    /** All that a desk tells of its state, but for the pad and how much can be undone. */
    static String told(HandoverDesk desk) {
        StringBuilder all = new StringBuilder();
        for (int what = 0; what <= 16; what++) {
            all.append(desk.count(what)).append(' ');
        }
        for (int place = 0; place < 12; place++) {
            all.append(desk.place(place, 0)).append('/').append(desk.place(place, 1)).append(' ');
            all.append(desk.checklist(place)).append(' ');
        }
        for (int topic = 0; topic < 10; topic++) {
            for (int what = 0; what <= 6; what++) {
                all.append(desk.ofTopic(topic, what)).append(' ');
            }
            for (int worker = 0; worker < 6; worker++) {
                all.append(desk.level(worker, topic)).append(' ');
            }
            all.append(desk.share(topic)).append(' ');
        }
        for (int worker = 0; worker < 6; worker++) {
            all.append(desk.mean(worker)).append(' ');
        }
        return all.append(desk.inOrder()).toString();
    }

    /** A desk with so many open topics. */
    static HandoverDesk deskWith(int topics) {
        HandoverDesk desk = new HandoverDesk();
        for (int topic = 0; topic < topics; topic++) {
            desk.open();
        }
        return desk;
    }

    static void end() {
        System.out.println(wrong == 0 ? asked + " answers are as due" : wrong + " of " + asked + " answers are not as due");
        if (wrong != 0) {
            System.exit(1);
        }
    }
}
