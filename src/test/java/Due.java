/** Counts and prints the answers that are not as due; each test is a main method that ends with end(). */
final class Due {
    private static int asked = 0;
    private static int wrong = 0;

    private Due() { }

    static void due(String call, long got, long want) {
        asked++;
        if (got != want) {
            wrong++;
            System.out.println(call + " answered " + got + ", due is " + want);
        }
    }

    static void holds(String what, boolean does) {
        asked++;
        if (!does) {
            wrong++;
            System.out.println("does not hold: " + what);
        }
    }

    static int wrong() {
        return wrong;
    }

    /** The number by which put() is given up to eight characters. */
    static long packed(String text) {
        long number = 0;
        for (int i = 0; i < text.length(); i++) {
            number = number << 8 | text.charAt(i);
        }
        return number;
    }

    /** Puts a text of any length, eight characters at a time. */
    static void write(HandoverDesk desk, String text) {
        for (int from = 0; from < text.length(); from += 8) {
            desk.put(packed(text.substring(from, Math.min(text.length(), from + 8))));
        }
    }

    static void end() {
        System.out.println(wrong == 0 ? asked + " answers are as due" : wrong + " of " + asked + " answers are not as due");
        if (wrong != 0) {
            System.exit(1);
        }
    }
}
