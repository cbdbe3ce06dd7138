/** Shifts that hand over what they know; ../shared/DOC.md holds the promises, by number. */
public final class HandoverDesk {
    public static final int NO_SUCH = -1, BAD_VALUE = -2, BAD_TEXT = -3, TOO_MANY = -4, NOT_POSSIBLE = -5, NONE = -6;
    public static final int KNOWN = 0, PASS = 1, DECAY = 2, WORK = 3, COST = 4, CALL = 5;

    private static final int SETTINGS = 6, WORKERS = 6, PLACES = 12, TOPICS = 10;
    private static final int MOST_LEVEL = 100, MOST_MINUTES = 60, MOST_SHIFTS = 50, MOST_TO_SPLIT = 40;
    private static final int MOST_SIGNS = 80, MOST_VALUES = 3, SIGNS_AT_ONCE = 8;
    private static final int MOST_UNDO = 6, SLOTS = 2;
    private static final int IS_KNOWN = 0, IS_AWAY = 1, IS_LOST = 2;
    private static final int COUNTED_BEFORE_SETTINGS = 11;
    private static final int MORE_THAN_ALL_MISSES = 3 * TOPICS + 1;

    private static final int[] FIRST_SETTING = {50, 5, 10, 8, 3, 40};
    private static final int[] LEAST_SETTING = {1, 1, 0, 0, 0, 0};
    private static final int[] MOST_SETTING = {100, 20, 50, 20, 99, 999};

    // The library's functions that tell a number's bits are outside LANGUAGE.md, so the bits are worked out.
    private static final int FLOAT_BIAS = 127, FLOAT_FRACTION_BITS = 23, FLOAT_ONE = 1 << FLOAT_FRACTION_BITS;
    private static final int DOUBLE_BIAS = 1023, DOUBLE_FRACTION_BITS = 52;
    private static final long DOUBLE_ONE = 1L << DOUBLE_FRACTION_BITS;

    private State now;
    /** What was before the change under way; it enters the history if that change returns no error. */
    private State before;
    private final State[] history;
    private int undoable;
    private final State[] slots;
    private final boolean[] saved;
    private final Pad pad;
    // What-ifs are tried on these, so that no call makes an object.
    private final State trial;
    private final State secondTrial;
    private final State thirdTrial;

    public HandoverDesk() {
        now = new State();
        before = new State();
        history = new State[MOST_UNDO];
        for (int i = 0; i < MOST_UNDO; i++) {
            history[i] = new State();
        }
        slots = new State[SLOTS];
        for (int i = 0; i < SLOTS; i++) {
            slots[i] = new State();
        }
        saved = new boolean[SLOTS];
        pad = new Pad();
        trial = new State();
        secondTrial = new State();
        thirdTrial = new State();
    }

    // ---- changes

    public int set(int setting, int value) {
        before.copyFrom(now);
        return recorded(now.changeSetting(setting, value));
    }

    public int roster(int place, int worker) {
        before.copyFrom(now);
        return recorded(now.changeWorker(place, worker));
    }

    public int minutes(int place, int minutes) {
        before.copyFrom(now);
        return recorded(now.changeMinutes(place, minutes));
    }

    public int open() {
        before.copyFrom(now);
        return recorded(now.bringTopic());
    }

    public int turn(int topic) {
        before.copyFrom(now);
        return recorded(now.turnTopic(topic));
    }

    public int check(int topic) {
        before.copyFrom(now);
        return recorded(now.checkTopic(topic));
    }

    public int learn(int worker, int topic, int points) {
        before.copyFrom(now);
        return recorded(now.learnTopic(worker, topic, points));
    }

    public int call(int topic) {
        before.copyFrom(now);
        return recorded(now.callAbout(topic));
    }

    public int endShift() {
        before.copyFrom(now);
        return recorded(now.finishWith(now.minutesBought()));
    }

    // ---- what there is

    public int level(int worker, int topic) {
        return isWorker(worker) && now.isTopic(topic) ? now.levelOf(worker, topic) : NO_SUCH;
    }

    public int ofTopic(int topic, int what) {
        if (!now.isTopic(topic)) {
            return NO_SUCH;
        }
        switch (what) {
            case 0: return now.isOpen(topic) ? 1 : 0;
            case 1: return now.isOpen(topic) ? now.howIs(topic) : NONE;
            case 2: return now.placeInChecklist(topic);
            case 3: return now.greatestFor(topic);
            case 4: return now.missesOf[topic];
            case 5: return now.begunWith[topic];
            case 6: return now.begunKnown[topic];
            default: return BAD_VALUE;
        }
    }

    public int checklist(int place) {
        return place >= 0 && place < now.checked ? now.checkedTopics[place] : NO_SUCH;
    }

    public int count(int what) {
        int setting = what - COUNTED_BEFORE_SETTINGS;
        if (isSetting(setting)) {
            return now.settings[setting];
        }
        switch (what) {
            case 0: return now.shift;
            case 1: return now.onDuty();
            case 2: return now.topics;
            case 3: return now.countOpen();
            case 4: return now.misses;
            case 5: return now.minutesHad;
            case 6: return now.minutesIdle;
            case 7: return now.minutesCost;
            case 8: return now.callsCost;
            case 9: return now.openThatAre(IS_LOST);
            case 10: return now.openThatAre(IS_AWAY);
            case 17: return pad.length;
            case 18: return undoable;
            default: return BAD_VALUE;
        }
    }

    public int place(int place, int what) {
        if (!isPlace(place) || what < 0 || what > 1) {
            return BAD_VALUE;
        }
        return what == 0 ? now.workerAt[place] : now.minutesAt[place];
    }

    public int inOrder() {
        int known = 0;
        for (int topic = 0; topic < now.topics; topic++) {
            if (now.isOpen(topic)) {
                if (now.howIs(topic) != IS_KNOWN) {
                    return known;
                }
                known++;
            }
        }
        return known;
    }

    public int share(int topic) {
        if (!now.isTopic(topic)) {
            return NO_SUCH;
        }
        int begun = now.begunWith[topic];
        return begun > 0 ? bitsOfShare((float) ((double) now.begunKnown[topic] / (double) begun)) : NONE;
    }

    public long mean(int worker) {
        if (!isWorker(worker)) {
            return NO_SUCH;
        }
        int open = now.countOpen();
        return open > 0 ? bitsOfMean((double) now.sumOfOpen(worker) / (double) open) : 0L;
    }

    // ---- what if; nothing changes

    public int leastMinutes() {
        for (int tried = 0; tried <= MOST_MINUTES; tried++) {
            trial.copyFrom(now);
            if (trial.finishWith(tried) == 0) {
                return tried;
            }
        }
        return NONE;
    }

    public int lostIn(int shifts) {
        if (shifts < 1 || shifts > MOST_SHIFTS) {
            return BAD_VALUE;
        }
        trial.copyFrom(now);
        for (int ended = 0; ended < shifts; ended++) {
            trial.finishWith(trial.minutesBought());
        }
        return trial.openThatAre(IS_LOST);
    }

    public int bestSplit(int total, int what) {
        if (total < 0 || total > MOST_TO_SPLIT || what < 0 || what > 3) {
            return BAD_VALUE;
        }
        int fewest = MORE_THAN_ALL_MISSES;
        int bestFirst = 0;
        int bestSecond = 0;
        // No end is given more than the 60 minutes it may have, as there are 40 at most.
        for (int first = 0; first <= total; first++) {
            trial.copyFrom(now);
            int missesAtFirst = trial.finishWith(first);
            for (int second = 0; second <= total - first; second++) {
                int misses = missesAtFirst + missesOfLastTwo(second, total - first - second, fewest - missesAtFirst);
                // Only fewer misses replace a split: the ways come in the order that decides between equals.
                if (misses < fewest) {
                    fewest = misses;
                    bestFirst = first;
                    bestSecond = second;
                }
            }
        }
        switch (what) {
            case 0: return fewest;
            case 1: return bestFirst;
            case 2: return bestSecond;
            default: return total - bestFirst - bestSecond;
        }
    }

    // ---- texts

    public int put(long characters) {
        return pad.append(characters);
    }

    public int wipe() {
        int length = pad.length;
        pad.length = 0;
        return length;
    }

    public int fault() {
        return pad.findFault();
    }

    public int carryOut() {
        if (pad.findFault() != NONE) {
            return BAD_TEXT;
        }
        before.copyFrom(now);
        pad.rewind();
        int done = 0;
        while (done < MOST_SIGNS && pad.readNext() && now.obey(pad.letter, pad.values) >= 0) {
            done++;
        }
        pad.length = 0;
        return recorded(done);
    }

    // ---- undo, saving

    public int undo() {
        if (undoable <= 0) {
            return NOT_POSSIBLE;
        }
        undoable--;
        State undone = now;
        now = history[undoable];
        history[undoable] = undone;
        return undoable;
    }

    public int save(int slot) {
        if (!isSlot(slot)) {
            return BAD_VALUE;
        }
        slots[slot].copyFrom(now);
        saved[slot] = true;
        return now.shift;
    }

    public int restore(int slot) {
        if (!isSlot(slot)) {
            return BAD_VALUE;
        }
        if (!saved[slot]) {
            return NOT_POSSIBLE;
        }
        before.copyFrom(now);
        now.copyFrom(slots[slot]);
        return recorded(now.shift);
    }

    // ---- helpers

    private static boolean isSetting(int setting) {
        return setting >= 0 && setting < SETTINGS;
    }

    private static boolean isWorker(int worker) {
        return worker >= 0 && worker < WORKERS;
    }

    private static boolean isPlace(int place) {
        return place >= 0 && place < PLACES;
    }

    private static boolean isSlot(int slot) {
        return slot >= 0 && slot < SLOTS;
    }

    /** Passes a change's answer on; the states change places, so that none is made or copied again. */
    private int recorded(int answer) {
        if (answer < 0) {
            return answer;
        }
        if (undoable >= MOST_UNDO) {
            dropOldest();
        }
        State unused = history[undoable];
        history[undoable] = before;
        before = unused;
        undoable++;
        return answer;
    }

    private void dropOldest() {
        State oldest = history[0];
        for (int i = 1; i < MOST_UNDO; i++) {
            history[i - 1] = history[i];
        }
        history[MOST_UNDO - 1] = oldest;
        undoable = MOST_UNDO - 1;
    }

    /** Goes on from the first end, which the trial has behind it; what comes to the limit may be told too low. */
    private int missesOfLastTwo(int second, int third, int limit) {
        secondTrial.copyFrom(trial);
        int misses = secondTrial.finishWith(second);
        // The third end can only add to them, and the most splits are out by then.
        if (misses >= limit) {
            return misses;
        }
        thirdTrial.copyFrom(secondTrial);
        return misses + thirdTrial.finishWith(third);
    }

    private static int bitsOfShare(float share) {
        if (share <= 0.0f) {
            return 0;
        }
        float scaled = share;
        int exponent = FLOAT_BIAS;
        while (scaled < 1.0f && exponent > 1) {
            scaled = scaled * 2.0f;
            exponent--;
        }
        return (exponent << FLOAT_FRACTION_BITS) + ((int) (scaled * (float) FLOAT_ONE) - FLOAT_ONE);
    }

    private static long bitsOfMean(double mean) {
        if (mean <= 0.0) {
            return 0L;
        }
        double scaled = mean;
        int exponent = DOUBLE_BIAS;
        while (scaled < 1.0 && exponent > 1) {
            scaled = scaled * 2.0;
            exponent--;
        }
        while (scaled >= 2.0 && exponent < 2 * DOUBLE_BIAS) {
            scaled = scaled / 2.0;
            exponent++;
        }
        return ((long) exponent << DOUBLE_FRACTION_BITS) + ((long) (scaled * (double) DOUBLE_ONE) - DOUBLE_ONE);
    }

    /** All that undo and the slots bring back, and the rules by which it changes. */
    private static final class State {
        final int[] settings;
        final int[] workerAt;
        final int[] minutesAt;
        final int[][] levels;
        final int[] checkedTopics;
        final int[] missesOf;
        final int[] begunWith;
        final int[] begunKnown;
        int topics;
        /** The open topics, as a set. */
        int openSet;
        int checked;
        int shift;
        int misses;
        int minutesHad;
        int minutesIdle;
        int minutesCost;
        int callsCost;

        State() {
            settings = new int[SETTINGS];
            System.arraycopy(FIRST_SETTING, 0, settings, 0, SETTINGS);
            workerAt = new int[PLACES];
            minutesAt = new int[PLACES];
            for (int place = 0; place < PLACES; place++) {
                workerAt[place] = place % 3;
                minutesAt[place] = 10;
            }
            levels = new int[WORKERS][TOPICS];
            checkedTopics = new int[TOPICS];
            missesOf = new int[TOPICS];
            begunWith = new int[TOPICS];
            begunKnown = new int[TOPICS];
        }

        void copyFrom(State other) {
            System.arraycopy(other.settings, 0, settings, 0, SETTINGS);
            System.arraycopy(other.workerAt, 0, workerAt, 0, PLACES);
            System.arraycopy(other.minutesAt, 0, minutesAt, 0, PLACES);
            for (int worker = 0; worker < WORKERS; worker++) {
                System.arraycopy(other.levels[worker], 0, levels[worker], 0, TOPICS);
            }
            System.arraycopy(other.checkedTopics, 0, checkedTopics, 0, TOPICS);
            System.arraycopy(other.missesOf, 0, missesOf, 0, TOPICS);
            System.arraycopy(other.begunWith, 0, begunWith, 0, TOPICS);
            System.arraycopy(other.begunKnown, 0, begunKnown, 0, TOPICS);
            topics = other.topics;
            openSet = other.openSet;
            checked = other.checked;
            shift = other.shift;
            misses = other.misses;
            minutesHad = other.minutesHad;
            minutesIdle = other.minutesIdle;
            minutesCost = other.minutesCost;
            callsCost = other.callsCost;
        }

        boolean isTopic(int topic) {
            return topic >= 0 && topic < topics;
        }

        boolean isOpen(int topic) {
            return topic >= 0 && topic < TOPICS && (openSet >> topic & 1) == 1;
        }

        int onDuty() {
            return workerAt[Math.floorMod(shift, PLACES)];
        }

        int nextOnDuty() {
            return workerAt[Math.floorMod(shift + 1, PLACES)];
        }

        int minutesBought() {
            return minutesAt[Math.floorMod(shift, PLACES)];
        }

        /** Numbers kept in the roster get here, too: so the look at both stands at the use. */
        int levelOf(int worker, int topic) {
            return isWorker(worker) && isTopic(topic) ? levels[worker][topic] : 0;
        }

        private void putLevel(int worker, int topic, int level) {
            if (isWorker(worker) && isTopic(topic)) {
                levels[worker][topic] = level;
            }
        }

        boolean knows(int worker, int topic) {
            return levelOf(worker, topic) >= settings[KNOWN];
        }

        int howIs(int topic) {
            if (knows(onDuty(), topic)) {
                return IS_KNOWN;
            }
            for (int worker = 0; worker < WORKERS; worker++) {
                if (knows(worker, topic)) {
                    return IS_AWAY;
                }
            }
            return IS_LOST;
        }

        int openThatAre(int how) {
            int set = 0;
            for (int topic = 0; topic < topics; topic++) {
                if (isOpen(topic) && howIs(topic) == how) {
                    set |= 1 << topic;
                }
            }
            return set;
        }

        int countOpen() {
            return Integer.bitCount(openSet);
        }

        int sumOfOpen(int worker) {
            int sum = 0;
            for (int topic = 0; topic < topics; topic++) {
                if (isOpen(topic)) {
                    sum += levelOf(worker, topic);
                }
            }
            return sum;
        }

        int placeInChecklist(int topic) {
            for (int place = 0; place < checked; place++) {
                if (checkedTopics[place] == topic) {
                    return place;
                }
            }
            return NONE;
        }

        /** The worker with the greatest level for a topic, of several the lowest one. */
        int greatestFor(int topic) {
            int greatest = 0;
            for (int worker = 1; worker < WORKERS; worker++) {
                if (levelOf(worker, topic) > levelOf(greatest, topic)) {
                    greatest = worker;
                }
            }
            return greatest;
        }

        int changeSetting(int setting, int value) {
            if (!isSetting(setting) || value < LEAST_SETTING[setting] || value > MOST_SETTING[setting]) {
                return BAD_VALUE;
            }
            int previous = settings[setting];
            settings[setting] = value;
            return previous;
        }

        int changeWorker(int place, int worker) {
            if (!isWorker(worker)) {
                return NO_SUCH;
            }
            if (!isPlace(place)) {
                return BAD_VALUE;
            }
            int previous = workerAt[place];
            workerAt[place] = worker;
            return previous;
        }

        int changeMinutes(int place, int bought) {
            if (!isPlace(place) || bought < 0 || bought > MOST_MINUTES) {
                return BAD_VALUE;
            }
            int previous = minutesAt[place];
            minutesAt[place] = bought;
            return previous;
        }

        int bringTopic() {
            if (topics >= TOPICS) {
                return TOO_MANY;
            }
            int topic = topics;
            openSet |= 1 << topic;
            topics++;
            return topic;
        }

        int turnTopic(int topic) {
            if (!isTopic(topic)) {
                return NO_SUCH;
            }
            openSet ^= 1 << topic;
            return isOpen(topic) ? 1 : 0;
        }

        int checkTopic(int topic) {
            if (!isTopic(topic)) {
                return NO_SUCH;
            }
            int place = placeInChecklist(topic);
            if (place >= 0) {
                checked--;
                for (int i = place; i < checked; i++) {
                    checkedTopics[i] = checkedTopics[i + 1];
                }
            } else if (checked < TOPICS) {
                checkedTopics[checked] = topic;
                checked++;
            }
            return checked;
        }

        int learnTopic(int worker, int topic, int points) {
            if (!isWorker(worker) || !isTopic(topic)) {
                return NO_SUCH;
            }
            if (points < 1 || points > MOST_LEVEL) {
                return BAD_VALUE;
            }
            int level = Math.min(MOST_LEVEL, levelOf(worker, topic) + points);
            putLevel(worker, topic, level);
            return level;
        }

        int callAbout(int topic) {
            if (!isTopic(topic)) {
                return NO_SUCH;
            }
            int caller = onDuty();
            int own = levelOf(caller, topic);
            // Whoever has more than the caller is another worker: so the greatest of all will do.
            int greatest = levelOf(greatestFor(topic), topic);
            if (!isOpen(topic) || greatest <= own) {
                return NOT_POSSIBLE;
            }
            int mean = (own + greatest + 1) / 2;
            putLevel(caller, topic, mean);
            callsCost += settings[CALL];
            return mean;
        }

        /** Ends the shift with so many overlap minutes, whatever was bought; answers the misses. */
        int finishWith(int overlap) {
            int giver = onDuty();
            int taker = nextOnDuty();
            // The roster takes no others; the look stands here because both are indexes below.
            if (!isWorker(giver) || !isWorker(taker)) {
                return 0;
            }
            work(levels[giver]);
            if (taker != giver) {
                minutesIdle += passOn(levels[giver], levels[taker], overlap);
                minutesHad += overlap;
                minutesCost += overlap * settings[COST];
            }
            shift++;
            for (int worker = 0; worker < WORKERS; worker++) {
                if (worker != taker) {
                    decay(levels[worker]);
                }
            }
            beginWithOpen(levels[taker]);
            return missesOfChecklist(levels[taker]);
        }

        private void work(int[] own) {
            for (int topic = 0; topic < topics; topic++) {
                if (isOpen(topic)) {
                    own[topic] = Math.min(MOST_LEVEL, own[topic] + settings[WORK]);
                }
            }
        }

        /** Answers how many of the minutes are idle. */
        private int passOn(int[] given, int[] taken, int overlap) {
            int left = overlap;
            // The taker's levels only grow here, so what the checklist has no need of now it never needs again.
            for (int place = 0; place < checked; place++) {
                int topic = checkedTopics[place];
                while (left > 0 && isOpen(topic) && taken[topic] < Math.min(settings[KNOWN], given[topic])) {
                    taken[topic] = Math.min(given[topic], taken[topic] + settings[PASS]);
                    left--;
                }
            }
            int widest = widestGap(given, taken);
            while (left > 0 && widest >= 0) {
                taken[widest] = Math.min(given[widest], taken[widest] + settings[PASS]);
                left--;
                widest = widestGap(given, taken);
            }
            return left;
        }

        private int widestGap(int[] given, int[] taken) {
            int widest = NONE;
            int gap = 0;
            for (int topic = 0; topic < topics; topic++) {
                if (isOpen(topic) && given[topic] - taken[topic] > gap) {
                    widest = topic;
                    gap = given[topic] - taken[topic];
                }
            }
            return widest;
        }

        private void decay(int[] own) {
            for (int topic = 0; topic < TOPICS; topic++) {
                own[topic] -= (own[topic] * settings[DECAY] + 99) / 100;
            }
        }

        private void beginWithOpen(int[] own) {
            for (int topic = 0; topic < topics; topic++) {
                if (isOpen(topic)) {
                    begunWith[topic]++;
                    if (own[topic] >= settings[KNOWN]) {
                        begunKnown[topic]++;
                    }
                }
            }
        }

        private int missesOfChecklist(int[] own) {
            int missed = 0;
            for (int place = 0; place < checked; place++) {
                int topic = checkedTopics[place];
                if (isOpen(topic) && own[topic] < settings[KNOWN]) {
                    missesOf[topic]++;
                    missed++;
                }
            }
            misses += missed;
            return missed;
        }

        int obey(char letter, int[] values) {
            switch (letter) {
                case 'o': return bringTopic();
                case 'x': return turnTopic(values[0]);
                case 'k': return checkTopic(values[0]);
                case 'c': return callAbout(values[0]);
                case 'l': return learnTopic(values[0], values[1], values[2]);
                case 'r': return changeWorker(values[0], values[1]);
                case 'm': return changeMinutes(values[0], values[1]);
                default: return finishWith(minutesBought());
            }
        }
    }

    /** The text, and a reader that goes through it order by order and stops where it cannot go on. */
    private static final class Pad {
        private static final String LETTERS = "oxkclrme";

        final char[] signs;
        final int[] values;
        int length;
        char letter;
        private int at;

        Pad() {
            signs = new char[MOST_SIGNS];
            values = new int[MOST_VALUES];
        }

        /** How many characters the number holds; 0 if it is not well made. */
        private static int countSigns(long characters) {
            long rest = characters;
            int count = 0;
            while (count < SIGNS_AT_ONCE && (rest & 255L) != 0L) {
                long code = rest & 255L;
                if (code < 33L || code > 126L) {
                    return 0;
                }
                count++;
                rest = rest >>> 8;
            }
            return rest == 0L ? count : 0;
        }

        int append(long characters) {
            int count = countSigns(characters);
            if (count == 0) {
                return BAD_VALUE;
            }
            if (length + count > MOST_SIGNS) {
                return TOO_MANY;
            }
            long rest = characters;
            for (int i = length + count - 1; i >= length; i--) {
                signs[i] = (char) (rest & 255L);
                rest = rest >>> 8;
            }
            length += count;
            return length;
        }

        void rewind() {
            at = 0;
        }

        int findFault() {
            rewind();
            for (int orders = 0; orders <= length && readNext(); orders++) {
                if (at == length) {
                    return NONE;
                }
            }
            return at;
        }

        /** Reads the next order into letter and values; if there is none, it stays where it cannot go on. */
        boolean readNext() {
            if (at > 0 && readSign(';') < 0) {
                return false;
            }
            if (at >= length || LETTERS.indexOf(signs[at]) < 0) {
                return false;
            }
            letter = signs[at];
            at++;
            String shape = shapeOf(letter);
            for (int i = 0; i < shape.length(); i++) {
                int value = readPart(shape.charAt(i));
                if (value < 0) {
                    return false;
                }
                // In each shape, a value and a mark take turns.
                if (i % 2 == 0) {
                    values[i / 2] = value;
                }
            }
            return true;
        }

        /** What follows the letter: t a topic, w a worker, n a number, all else itself. */
        private static String shapeOf(char letter) {
            switch (letter) {
                case 'x':
                case 'k':
                case 'c': return "t";
                case 'l': return "w.t+n";
                case 'r': return "n=w";
                case 'm': return "n=n";
                default: return "";
            }
        }

        private int readPart(char kind) {
            switch (kind) {
                case 't': return readDigit('9');
                case 'w': return readDigit('5');
                case 'n': return readNumber();
                default: return readSign(kind);
            }
        }

        private int readSign(char sign) {
            if (at >= length || signs[at] != sign) {
                return NONE;
            }
            at++;
            return 0;
        }

        private int readDigit(char most) {
            if (at >= length || signs[at] < '0' || signs[at] > most) {
                return NONE;
            }
            int digit = signs[at] - '0';
            at++;
            return digit;
        }

        private int readNumber() {
            int number = readDigit('9');
            if (number <= 0) {
                return number;
            }
            for (int more = 0; more < 2; more++) {
                int digit = readDigit('9');
                if (digit < 0) {
                    return number;
                }
                number = number * 10 + digit;
            }
            return number;
        }
    }
}
