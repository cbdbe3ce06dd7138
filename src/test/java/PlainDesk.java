import java.util.ArrayDeque;
import java.util.ArrayList;
import java.util.Arrays;
import java.util.Deque;
import java.util.List;
import java.util.regex.Matcher;
import java.util.regex.Pattern;

/**
 * The document once more, as literally as it can be written with the whole Java library and without
 * a thought for speed or room; ModelTest compares HandoverDesk with it.
 */
final class PlainDesk {
    private static final int NO_SUCH = -1, BAD_VALUE = -2, BAD_TEXT = -3, TOO_MANY = -4, NOT_POSSIBLE = -5, NONE = -6;
    private static final String NUMBER = "(0|[1-9][0-9]{0,2})";
    private static final String ORDER = "(o|x[0-9]|k[0-9]|c[0-9]|l[0-5]\\.[0-9]\\+" + NUMBER
            + "|r" + NUMBER + "=[0-5]|m" + NUMBER + "=" + NUMBER + "|e)";
    private static final Pattern TEXT = Pattern.compile(ORDER + "(;" + ORDER + ")*");
    private static final int[][] RANGES = {{1, 100}, {1, 20}, {0, 50}, {0, 20}, {0, 99}, {0, 999}};

    private static final class Topic {
        boolean open = true;
        int[] levels = new int[6];
        int misses;
        int begun;
        int begunKnown;
    }

    private static final class Facts {
        int[] settings = {50, 5, 10, 8, 3, 40};
        int[] workers = {0, 1, 2, 0, 1, 2, 0, 1, 2, 0, 1, 2};
        int[] minutes = new int[12];
        List<Topic> topics = new ArrayList<>();
        List<Integer> list = new ArrayList<>();
        int shift, misses, had, idle, minutesCost, callsCost;

        Facts() {
            Arrays.fill(minutes, 10);
        }

        Facts copy() {
            Facts other = new Facts();
            other.settings = settings.clone();
            other.workers = workers.clone();
            other.minutes = minutes.clone();
            for (Topic topic : topics) {
                Topic same = new Topic();
                same.open = topic.open;
                same.levels = topic.levels.clone();
                same.misses = topic.misses;
                same.begun = topic.begun;
                same.begunKnown = topic.begunKnown;
                other.topics.add(same);
            }
            other.list = new ArrayList<>(list);
            other.shift = shift;
            other.misses = misses;
            other.had = had;
            other.idle = idle;
            other.minutesCost = minutesCost;
            other.callsCost = callsCost;
            return other;
        }

        int duty() {
            return workers[shift % 12];
        }

        boolean has(int topic) {
            return topic >= 0 && topic < topics.size();
        }

        int how(Topic topic) {
            if (topic.levels[duty()] >= settings[0]) {
                return 0;
            }
            return Arrays.stream(topic.levels).anyMatch(level -> level >= settings[0]) ? 1 : 2;
        }

        int those(int how) {
            int set = 0;
            for (int i = 0; i < topics.size(); i++) {
                if (topics.get(i).open && how(topics.get(i)) == how) {
                    set += 1 << i;
                }
            }
            return set;
        }

        Topic toPass(int from, int to) {
            for (int number : list) {
                Topic topic = topics.get(number);
                if (topic.open && topic.levels[to] < settings[0] && topic.levels[to] < topic.levels[from]) {
                    return topic;
                }
            }
            Topic most = null;
            for (Topic topic : topics) {
                int more = topic.levels[from] - topic.levels[to];
                if (topic.open && more > 0 && (most == null || more > most.levels[from] - most.levels[to])) {
                    most = topic;
                }
            }
            return most;
        }

        int end() {
            int from = duty();
            int to = workers[(shift + 1) % 12];
            for (Topic topic : topics) {
                if (topic.open) {
                    topic.levels[from] = Math.min(100, topic.levels[from] + settings[3]);
                }
            }
            for (int minute = 0; from != to && minute < minutes[shift % 12]; minute++) {
                had++;
                minutesCost += settings[4];
                Topic topic = toPass(from, to);
                if (topic == null) {
                    idle++;
                } else {
                    topic.levels[to] = Math.min(topic.levels[from], topic.levels[to] + settings[1]);
                }
            }
            shift++;
            int missed = 0;
            for (int i = 0; i < topics.size(); i++) {
                Topic topic = topics.get(i);
                for (int worker = 0; worker < 6; worker++) {
                    if (worker != duty()) {
                        topic.levels[worker] -= (int) Math.ceil(topic.levels[worker] * settings[2] / 100.0);
                    }
                }
                boolean known = topic.levels[duty()] >= settings[0];
                if (topic.open) {
                    topic.begun++;
                    topic.begunKnown += known ? 1 : 0;
                    if (list.contains(i) && !known) {
                        topic.misses++;
                        missed++;
                    }
                }
            }
            misses += missed;
            return missed;
        }

        int end(int given) {
            minutes[shift % 12] = given;
            return end();
        }
    }

    private Facts now = new Facts();
    private final Deque<Facts> past = new ArrayDeque<>();
    private final Facts[] slots = new Facts[2];
    private String pad = "";

    private void record() {
        past.addLast(now.copy());
        if (past.size() > 6) {
            past.removeFirst();
        }
    }

    private static boolean in(int value, int least, int most) {
        return value >= least && value <= most;
    }

    int set(int setting, int value) {
        if (!in(setting, 0, 5) || !in(value, RANGES[setting][0], RANGES[setting][1])) {
            return BAD_VALUE;
        }
        record();
        int previous = now.settings[setting];
        now.settings[setting] = value;
        return previous;
    }

    int roster(int place, int worker) {
        if (!in(worker, 0, 5)) {
            return NO_SUCH;
        }
        if (!in(place, 0, 11)) {
            return BAD_VALUE;
        }
        record();
        int previous = now.workers[place];
        now.workers[place] = worker;
        return previous;
    }

    int minutes(int place, int minutes) {
        if (!in(place, 0, 11) || !in(minutes, 0, 60)) {
            return BAD_VALUE;
        }
        record();
        int previous = now.minutes[place];
        now.minutes[place] = minutes;
        return previous;
    }

    int open() {
        if (now.topics.size() == 10) {
            return TOO_MANY;
        }
        record();
        now.topics.add(new Topic());
        return now.topics.size() - 1;
    }

    int turn(int topic) {
        if (!now.has(topic)) {
            return NO_SUCH;
        }
        record();
        now.topics.get(topic).open = !now.topics.get(topic).open;
        return now.topics.get(topic).open ? 1 : 0;
    }

    int check(int topic) {
        if (!now.has(topic)) {
            return NO_SUCH;
        }
        record();
        if (!now.list.remove((Integer) topic)) {
            now.list.add(topic);
        }
        return now.list.size();
    }

    int learn(int worker, int topic, int points) {
        if (!in(worker, 0, 5) || !now.has(topic)) {
            return NO_SUCH;
        }
        if (!in(points, 1, 100)) {
            return BAD_VALUE;
        }
        record();
        int[] levels = now.topics.get(topic).levels;
        levels[worker] = Math.min(100, levels[worker] + points);
        return levels[worker];
    }

    int call(int topic) {
        if (!now.has(topic)) {
            return NO_SUCH;
        }
        int[] levels = now.topics.get(topic).levels;
        int duty = now.duty();
        int greatest = 0;
        for (int worker = 0; worker < 6; worker++) {
            if (worker != duty) {
                greatest = Math.max(greatest, levels[worker]);
            }
        }
        if (!now.topics.get(topic).open || greatest <= levels[duty]) {
            return NOT_POSSIBLE;
        }
        record();
        now.topics.get(topic).levels[duty] = (int) Math.ceil((greatest + levels[duty]) / 2.0);
        now.callsCost += now.settings[5];
        return now.topics.get(topic).levels[duty];
    }

    int endShift() {
        record();
        return now.end();
    }

    int level(int worker, int topic) {
        return in(worker, 0, 5) && now.has(topic) ? now.topics.get(topic).levels[worker] : NO_SUCH;
    }

    int ofTopic(int topic, int what) {
        if (!now.has(topic)) {
            return NO_SUCH;
        }
        if (!in(what, 0, 6)) {
            return BAD_VALUE;
        }
        Topic facts = now.topics.get(topic);
        int most = Arrays.stream(facts.levels).max().getAsInt();
        int first = 0;
        while (facts.levels[first] != most) {
            first++;
        }
        int place = now.list.indexOf(topic);
        return new int[] {facts.open ? 1 : 0, facts.open ? now.how(facts) : NONE, place < 0 ? NONE : place, first,
                facts.misses, facts.begun, facts.begunKnown}[what];
    }

    int checklist(int place) {
        return in(place, 0, now.list.size() - 1) ? now.list.get(place) : NO_SUCH;
    }

    int count(int what) {
        if (!in(what, 0, 18)) {
            return BAD_VALUE;
        }
        int open = (int) now.topics.stream().filter(topic -> topic.open).count();
        int[] s = now.settings;
        return new int[] {now.shift, now.duty(), now.topics.size(), open, now.misses, now.had, now.idle, now.minutesCost,
                now.callsCost, now.those(2), now.those(1), s[0], s[1], s[2], s[3], s[4], s[5], pad.length(), past.size()}[what];
    }

    int place(int place, int what) {
        if (!in(place, 0, 11) || !in(what, 0, 1)) {
            return BAD_VALUE;
        }
        return what == 0 ? now.workers[place] : now.minutes[place];
    }

    int inOrder() {
        List<Topic> open = new ArrayList<>(now.topics);
        open.removeIf(topic -> !topic.open);
        int known = 0;
        while (known < open.size() && now.how(open.get(known)) == 0) {
            known++;
        }
        return known;
    }

    int share(int topic) {
        if (!now.has(topic)) {
            return NO_SUCH;
        }
        Topic facts = now.topics.get(topic);
        return facts.begun == 0 ? NONE : Float.floatToIntBits((float) ((double) facts.begunKnown / facts.begun));
    }

    long mean(int worker) {
        if (!in(worker, 0, 5)) {
            return NO_SUCH;
        }
        int sum = 0;
        int open = 0;
        for (Topic topic : now.topics) {
            if (topic.open) {
                sum += topic.levels[worker];
                open++;
            }
        }
        return open == 0 ? 0 : Double.doubleToLongBits((double) sum / open);
    }

    int leastMinutes() {
        for (int minutes = 0; minutes <= 60; minutes++) {
            if (now.copy().end(minutes) == 0) {
                return minutes;
            }
        }
        return NONE;
    }

    int lostIn(int shifts) {
        if (!in(shifts, 1, 50)) {
            return BAD_VALUE;
        }
        Facts then = now.copy();
        for (int i = 0; i < shifts; i++) {
            then.end();
        }
        return then.those(2);
    }

    int bestSplit(int total, int what) {
        if (!in(total, 0, 40) || !in(what, 0, 3)) {
            return BAD_VALUE;
        }
        int[] best = null;
        for (int a = 0; a <= total; a++) {
            for (int b = 0; a + b <= total; b++) {
                int c = total - a - b;
                Facts then = now.copy();
                int misses = then.end(a) + then.end(b) + then.end(c);
                if (best == null || misses < best[0]) {
                    best = new int[] {misses, a, b, c};
                }
            }
        }
        return best[what];
    }

    int put(long characters) {
        StringBuilder text = new StringBuilder();
        boolean ended = false;
        for (int i = 0; i < 8; i++) {
            int code = (int) (characters >>> 8 * i & 255);
            if (code == 0) {
                ended = true;
            } else if (ended || !in(code, 33, 126)) {
                return BAD_VALUE;
            } else {
                text.insert(0, (char) code);
            }
        }
        if (text.length() == 0) {
            return BAD_VALUE;
        }
        if (pad.length() + text.length() > 80) {
            return TOO_MANY;
        }
        pad += text;
        return pad.length();
    }

    int wipe() {
        int length = pad.length();
        pad = "";
        return length;
    }

    int fault() {
        for (int length = 1; length <= pad.length(); length++) {
            Matcher beginning = TEXT.matcher(pad.substring(0, length));
            if (!beginning.matches() && !beginning.hitEnd()) {
                return length - 1;
            }
        }
        return TEXT.matcher(pad).matches() ? NONE : pad.length();
    }

    int carryOut() {
        if (fault() != NONE) {
            return BAD_TEXT;
        }
        Facts before = now.copy();
        List<Facts> kept = new ArrayList<>(past);
        int done = 0;
        for (String order : pad.split(";")) {
            if (obey(order) < 0) {
                break;
            }
            done++;
        }
        past.clear();
        past.addAll(kept);
        past.addLast(before);
        if (past.size() > 6) {
            past.removeFirst();
        }
        pad = "";
        return done;
    }

    private int obey(String order) {
        String[] rest = order.substring(1).split("[.+=]");
        int[] n = new int[3];
        for (int i = 0; i < rest.length && !rest[i].isEmpty(); i++) {
            n[i] = Integer.parseInt(rest[i]);
        }
        return switch (order.charAt(0)) {
            case 'o' -> open();
            case 'x' -> turn(n[0]);
            case 'k' -> check(n[0]);
            case 'c' -> call(n[0]);
            case 'l' -> learn(n[0], n[1], n[2]);
            case 'r' -> roster(n[0], n[1]);
            case 'm' -> minutes(n[0], n[1]);
            default -> endShift();
        };
    }

    int undo() {
        if (past.isEmpty()) {
            return NOT_POSSIBLE;
        }
        now = past.removeLast();
        return past.size();
    }

    int save(int slot) {
        if (!in(slot, 0, 1)) {
            return BAD_VALUE;
        }
        slots[slot] = now.copy();
        return now.shift;
    }

    int restore(int slot) {
        if (!in(slot, 0, 1)) {
            return BAD_VALUE;
        }
        if (slots[slot] == null) {
            return NOT_POSSIBLE;
        }
        record();
        now = slots[slot].copy();
        return now.shift;
    }
}
