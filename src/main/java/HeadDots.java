/**
 * Thermal heads whose dots must cool ahead of the next line.
 *
 * <p>The promises are numbered in the project's document; each public method names its own.
 * Indexes, divisors and references are tested ahead of their use also where they are always fine,
 * so that the Java machine itself never throws here.
 */
public final class HeadDots {
    /** There is nothing to return. */
    public static final int NONE = -1;

    private static final int DOTS = 24;
    private static final int ALL_DOTS = 16777215;
    private static final int MOST_TIMES = 20;
    private static final int LONGEST_REST = 999;
    private static final int HOTTEST_BOUND = 900;
    private static final int SAVED_STATES = 6;
    private static final int LOWEST_CODE = 33;
    private static final int HIGHEST_CODE = 126;

    /** Far above the steps of any loop that cools a dot: each step takes at least 1 of its heat. */
    private static final int MANY_STEPS = 1000000;

    private static final int PULSE = 0;
    private static final int COOLING = 1;
    private static final int BOUND = 2;
    private static final int DOT_WATTS = 3;
    private static final int SUPPLY_WATTS = 4;
    private static final int WAY = 5;
    private static final int FEED = 6;
    private static final int[] SETTING_FIRST = {120, 40, 500, 8, 100, 0, 5};
    private static final int[] SETTING_LEAST = {50, 5, 330, 1, 1, 0, 0};
    private static final int[] SETTING_MOST = {300, 200, 900, 20, 200, 1, 50};

    private static final int PLAIN = 0;
    private static final int FINE = 1;
    private static final int LABEL = 2;
    private static final int[] PAPER_PULSE = {0, -15, 25};
    private static final int[] PAPER_DARK = {110, 90, 150};

    private static final int COUNT_NUMBERS = 19;
    private static final int COUNT_FIRST_SETTING = 11;
    private static final int DOT_NUMBERS = 7;
    private static final int KEPT_NUMBERS = 3;
    private static final int TRIAL_NUMBERS = 5;

    private static final long DIGEST_START = 3833L;
    private static final int EVERY_OTHER_DOT = 5592405;
    private static final int DIGEST_BETTER_WAY_OF = 65535;
    private static final int DIGEST_COOL_IN_OF = 50;

    private final State now;
    private final State snapshot;
    /** What would be is told by printing on a copy; the copy's room is made once. */
    private final State trial;
    private final State[] saved;
    private final Buffer buffer;
    private final Reader reader;
    private int savedCount;
    private boolean hasSnapshot;

    /** Promise 1: a cold head, plain paper, an empty strip, an empty buffer, no snapshot. */
    public HeadDots() {
        now = new State();
        snapshot = new State();
        trial = new State();
        saved = new State[SAVED_STATES];
        for (int i = 0; i < saved.length; i++) {
            saved[i] = new State();
        }
        buffer = new Buffer();
        reader = new Reader();
        savedCount = 0;
        hasSnapshot = false;
    }

    // ---- printing

    /** Promise 2: prints a line and returns the time that it took, with the feed. Undoable. */
    public int line(int dots) throws IllegalArgumentException {
        if (!isLine(dots)) {
            throw new IllegalArgumentException("dots");
        }
        saveState();
        return now.printLine(dots);
    }

    /** Promise 3: prints a line some times and returns how many dots were faint. Undoable, as one call. */
    public int lines(int dots, int times) throws IllegalArgumentException {
        if (!isLine(dots) || !isWithin(times, 1, MOST_TIMES)) {
            throw new IllegalArgumentException("dots or times");
        }
        saveState();
        int faintBefore = now.totals.faint;
        now.printLines(dots, times);
        return now.totals.faint - faintBefore;
    }

    /** Promise 4: lets time pass and returns the greatest heat then. Undoable. */
    public int rest(int time) throws IllegalArgumentException {
        if (!isWithin(time, 1, LONGEST_REST)) {
            throw new IllegalArgumentException("time");
        }
        saveState();
        now.passTime(time);
        return now.hottestDot();
    }

    /** Promise 5: changes the paper and returns how many lines the old strip had. Undoable. */
    public int paper(int paper) throws IllegalArgumentException {
        if (!isWithin(paper, PLAIN, LABEL)) {
            throw new IllegalArgumentException("paper");
        }
        saveState();
        int oldLines = now.strip.size;
        now.changePaper(paper);
        return oldLines;
    }

    /** Promise 6: changes a setting and returns the previous value. Undoable. */
    public int set(int setting, int value) throws IndexOutOfBoundsException, IllegalArgumentException {
        if (!isWithin(setting, PULSE, FEED)) {
            throw new IndexOutOfBoundsException("setting");
        }
        if (!isWithin(value, at(SETTING_LEAST, setting), at(SETTING_MOST, setting))) {
            throw new IllegalArgumentException("value");
        }
        saveState();
        int previous = now.setting(setting);
        now.changeSetting(setting, value);
        return previous;
    }

    // ---- texts

    /** Promise 7: appends a character to the buffer and returns the new length. */
    public int append(int code) throws IllegalArgumentException, IllegalStateException {
        if (!isWithin(code, LOWEST_CODE, HIGHEST_CODE)) {
            throw new IllegalArgumentException("code");
        }
        if (buffer.isFull()) {
            throw new IllegalStateException("the buffer is full");
        }
        buffer.addCode(code);
        return buffer.length;
    }

    /** Promise 8: clears the buffer and returns the length that it had. */
    public int clearBuffer() {
        int length = buffer.length;
        buffer.length = 0;
        return length;
    }

    /** Promise 9: returns the index of the first syntax error, or the length of the buffer. */
    public int firstError() {
        return reader.readUntilError(buffer);
    }

    /** Promise 10: does what the buffer tells and returns how many lines are printed. Undoable, as one call. */
    public int print() throws IllegalArgumentException {
        if (reader.readUntilError(buffer) < buffer.length || !reader.isComplete()) {
            throw new IllegalArgumentException("the buffer is not complete");
        }
        saveState();
        int linesBefore = now.totals.lines;
        reader.beginPart();
        for (int i = 0; i < buffer.length; i++) {
            int code = buffer.codeAt(i);
            if (code == Reader.BETWEEN_PARTS) {
                printPartOfText();
            }
            reader.take(code);
        }
        printPartOfText();
        buffer.length = 0;
        return now.totals.lines - linesBefore;
    }

    /** Promise 11: returns the code of a character of a kept line's text, or NONE. */
    public int told(int back, int index) throws IllegalArgumentException {
        if (!isWithin(back, 0, Strip.LINES - 1) || index < 0) {
            throw new IllegalArgumentException("back or index");
        }
        return now.strip.sign(back, index);
    }

    // ---- undo, the snapshot

    /** Promise 12: restores the latest saved state and returns how many are left. */
    public int undo() throws IllegalStateException {
        if (savedCount < 1) {
            throw new IllegalStateException("no saved state");
        }
        savedCount--;
        State latest = savedAt(savedCount);
        if (latest != null) {
            now.copyFrom(latest);
        }
        return savedCount;
    }

    /** Promise 13: takes a snapshot and returns how many lines were printed so far. */
    public int keep() {
        snapshot.copyFrom(now);
        hasSnapshot = true;
        return now.totals.lines;
    }

    /** Promise 14: restores the snapshot and returns how many lines were printed so far then. Undoable. */
    public int restore() throws IllegalStateException {
        if (!hasSnapshot) {
            throw new IllegalStateException("no snapshot");
        }
        saveState();
        now.copyFrom(snapshot);
        return now.totals.lines;
    }

    // ---- looks; nothing is changed

    /** Promise 15: returns a number of a dot. */
    public int dot(int dot, int what) throws IndexOutOfBoundsException, IllegalArgumentException {
        if (!isDot(dot)) {
            throw new IndexOutOfBoundsException("dot");
        }
        if (!isWithin(what, 0, DOT_NUMBERS - 1)) {
            throw new IllegalArgumentException("what");
        }
        return now.numberOfDot(dot, what);
    }

    /** Promise 16: returns a number of a kept line, or NONE. */
    public int kept(int back, int what) throws IllegalArgumentException {
        if (!isWithin(back, 0, Strip.LINES - 1) || !isWithin(what, 0, KEPT_NUMBERS - 1)) {
            throw new IllegalArgumentException("back or what");
        }
        return now.strip.numberOfLine(back, what);
    }

    /** Promise 17: returns a number of the whole. */
    public int count(int what) throws IllegalArgumentException {
        if (!isWithin(what, 0, COUNT_NUMBERS - 1)) {
            throw new IllegalArgumentException("what");
        }
        return counted(what);
    }

    // ---- what would be; nothing is changed

    /** Promise 18: returns what a line would bring now. */
    public int ifPrinted(int dots, int what) throws IllegalArgumentException {
        if (!isLine(dots) || !isWithin(what, 0, TRIAL_NUMBERS - 1)) {
            throw new IllegalArgumentException("dots or what");
        }
        tryLine(dots, now.setting(WAY));
        return tried(what);
    }

    /** Promise 19: returns the value of setting 5 with which a line would take less time now. */
    public int betterWay(int dots) throws IllegalArgumentException {
        if (!isLine(dots)) {
            throw new IllegalArgumentException("dots");
        }
        return fasterWay(dots);
    }

    /** Promise 20: returns the time until no dot is hotter than this. */
    public int coolIn(int heat) throws IllegalArgumentException {
        if (!isWithin(heat, 0, HOTTEST_BOUND)) {
            throw new IllegalArgumentException("heat");
        }
        return now.timeUntilCool(heat);
    }

    /** Promise 21: returns the least value of setting 0 with which the dot, alone, would be dark, or NONE. */
    public int darkFrom(int dot) throws IndexOutOfBoundsException {
        if (!isDot(dot)) {
            throw new IndexOutOfBoundsException("dot");
        }
        return now.leastDarkSetting(dot);
    }

    /** Promise 22: returns the share of the printed dots that were dark. */
    public double darkness() {
        return now.totals.darkShare();
    }

    /** Promise 23: returns the mean heat of a dot. */
    public float meanHeat() {
        return now.mean();
    }

    /** Promise 24: returns a hash of the whole state. */
    public long digest() {
        long hash = DIGEST_START;
        for (int what = 0; what < COUNT_NUMBERS; what++) {
            hash = mixed(hash, counted(what));
        }
        hash = mixedDots(hash);
        hash = mixedStrip(hash);
        hash = mixedTrials(hash);
        hash = mixed(hash, fasterWay(DIGEST_BETTER_WAY_OF));
        hash = mixed(hash, now.timeUntilCool(DIGEST_COOL_IN_OF));
        hash = mixed(hash, now.leastDarkSetting(0));
        hash = mixed(hash, bitsOfDouble(now.totals.darkShare()));
        hash = mixed(hash, bitsOfFloat(now.mean()));
        return mixedBuffer(hash);
    }

    // ---- inside

    /** Keeps the state ahead of an undoable call; the oldest one's room is used again. */
    private void saveState() {
        if (savedCount >= saved.length) {
            dropOldest();
        }
        State room = savedAt(savedCount);
        if (room != null) {
            room.copyFrom(now);
            savedCount++;
        }
    }

    private void dropOldest() {
        State oldest = savedAt(0);
        for (int i = 1; i < saved.length; i++) {
            saved[i - 1] = saved[i];
        }
        if (saved.length > 0) {
            saved[saved.length - 1] = oldest;
            savedCount = saved.length - 1;
        }
    }

    private State savedAt(int index) {
        return index >= 0 && index < saved.length ? saved[index] : null;
    }

    /** Called at the end of a part alone, since only there its number is whole. */
    private void printPartOfText() {
        switch (reader.kind) {
            case Reader.A_LINE:
                now.printLines(reader.dots, Math.max(1, reader.number));
                break;
            case Reader.A_PAPER:
                now.changePaper(reader.paperKind);
                break;
            case Reader.A_REST:
                now.passTime(reader.number);
                break;
            case Reader.AN_EMPTY:
                now.printLine(0);
                break;
            default:
                break;
        }
    }

    private int counted(int what) {
        Totals totals = now.totals;
        switch (what) {
            case 0: return totals.time;
            case 1: return totals.lines;
            case 2: return totals.parts;
            case 3: return totals.waits;
            case 4: return totals.dots;
            case 5: return totals.dotByDot();
            case 6: return totals.faint;
            case 7: return now.hottestDot();
            case 8: return totals.hottest;
            case 9: return now.paperKind;
            case 10: return now.strip.size;
            case 18: return savedCount;
            default: return now.setting(what - COUNT_FIRST_SETTING);
        }
    }

    /** Prints a line on the copy, whose hottest heat is told from now on alone. */
    private void tryLine(int dots, int way) {
        trial.copyFrom(now);
        trial.changeSetting(WAY, way);
        trial.totals.hottest = now.hottestDot();
        trial.printLine(dots);
    }

    private int tried(int what) {
        Totals then = trial.totals;
        switch (what) {
            case 0: return then.time - now.totals.time;
            case 1: return then.waits - now.totals.waits;
            case 2: return then.parts - now.totals.parts;
            case 3: return then.faint - now.totals.faint;
            default: return then.hottest;
        }
    }

    private int fasterWay(int dots) {
        tryLine(dots, 0);
        int behindOneAnother = tried(0);
        tryLine(dots, 1);
        return tried(0) < behindOneAnother ? 1 : 0;
    }

    private long mixedDots(long start) {
        long hash = start;
        for (int dot = 0; dot < DOTS; dot++) {
            for (int what = 0; what < DOT_NUMBERS; what++) {
                hash = mixed(hash, now.numberOfDot(dot, what));
            }
        }
        return hash;
    }

    private long mixedStrip(long start) {
        long hash = start;
        Strip strip = now.strip;
        for (int back = 0; back < strip.size; back++) {
            for (int what = 0; what < KEPT_NUMBERS; what++) {
                hash = mixed(hash, strip.numberOfLine(back, what));
            }
            int length = strip.textLength(back);
            for (int index = 0; index < length; index++) {
                hash = mixed(hash, strip.sign(back, index));
            }
        }
        return hash;
    }

    private long mixedTrials(long start) {
        long hash = start;
        for (int line = 0; line < 2; line++) {
            tryLine(line == 0 ? ALL_DOTS : EVERY_OTHER_DOT, now.setting(WAY));
            for (int what = 0; what < TRIAL_NUMBERS; what++) {
                hash = mixed(hash, tried(what));
            }
        }
        return hash;
    }

    private long mixedBuffer(long start) {
        long hash = mixed(start, buffer.length);
        for (int i = 0; i < buffer.length; i++) {
            hash = mixed(hash, buffer.codeAt(i));
        }
        return hash;
    }

    private static long mixed(long hash, long value) {
        return 31L * hash + value;
    }

    /**
     * The bits as of Double.doubleToLongBits, which the language rules do not list; for 0 and for
     * numbers that are not too small for a whole exponent. Each step by 2 is exact.
     */
    private static long bitsOfDouble(double number) {
        if (!(number > 0.0)) {
            return 0L;
        }
        double share = number;
        long exponent = 1023L;
        for (int i = 0; i < 1023 && share < 1.0; i++) {
            share = share * 2.0;
            exponent--;
        }
        for (int i = 0; i < 1023 && share >= 2.0; i++) {
            share = share / 2.0;
            exponent++;
        }
        return (exponent << 52) + (long) ((share - 1.0) * 4503599627370496.0);
    }

    /** The bits as of Float.floatToIntBits, by the same way as those of a double. */
    private static int bitsOfFloat(float number) {
        if (!(number > 0.0f)) {
            return 0;
        }
        float share = number;
        int exponent = 127;
        for (int i = 0; i < 127 && share < 1.0f; i++) {
            share = share * 2.0f;
            exponent--;
        }
        for (int i = 0; i < 127 && share >= 2.0f; i++) {
            share = share / 2.0f;
            exponent++;
        }
        return (exponent << 23) + (int) ((share - 1.0f) * 8388608.0f);
    }

    private static boolean isWithin(int number, int least, int most) {
        return number >= least && number <= most;
    }

    private static boolean isLine(int dots) {
        return isWithin(dots, 0, ALL_DOTS);
    }

    private static boolean isDot(int dot) {
        return isWithin(dot, 0, DOTS - 1);
    }

    /** 1 if the dot prints in the line; dots beyond the ends print in none. */
    private static int bitOf(int dots, int dot) {
        return dot >= 0 && dot < DOTS ? dots >> dot & 1 : 0;
    }

    private static int at(int[] row, int index) {
        return index >= 0 && index < row.length ? row[index] : 0;
    }

    private static void put(int[] row, int index, int value) {
        if (index >= 0 && index < row.length) {
            row[index] = value;
        }
    }

    private static void copyRow(int[] from, int[] to) {
        System.arraycopy(from, 0, to, 0, Math.min(from.length, to.length));
    }

    /** All that undo and the snapshot bring back. */
    private static final class State {
        private static final int SHORTEST_PULSE = 20;
        private static final int LESS_FOR_LAST = 20;
        private static final int LESS_FOR_BEFORE = 10;
        private static final int LESS_FOR_NEIGHBOUR = 5;

        private final int[] heat;
        /** Those of the line that is printed just now; no part of what is brought back. */
        private final int[] pulses;
        private final int[] settings;
        private final Strip strip;
        private final Totals totals;
        private int lastLine;
        private int lineBefore;
        private int paperKind;

        State() {
            heat = new int[DOTS];
            pulses = new int[DOTS];
            settings = new int[SETTING_FIRST.length];
            copyRow(SETTING_FIRST, settings);
            strip = new Strip();
            totals = new Totals();
            lastLine = 0;
            lineBefore = 0;
            paperKind = PLAIN;
        }

        void copyFrom(State other) {
            copyRow(other.heat, heat);
            copyRow(other.settings, settings);
            strip.copyFrom(other.strip);
            totals.copyFrom(other.totals);
            lastLine = other.lastLine;
            lineBefore = other.lineBefore;
            paperKind = other.paperKind;
        }

        int setting(int index) {
            return at(settings, index);
        }

        void changeSetting(int index, int value) {
            put(settings, index, value);
        }

        void changePaper(int kind) {
            paperKind = kind;
            strip.size = 0;
        }

        void printLines(int dots, int times) {
            for (int i = 0; i < times; i++) {
                printLine(dots);
            }
        }

        /** Returns the time that the line took, with the feed. */
        int printLine(int dots) {
            int start = totals.time;
            int atOnce = dotsAtOnce();
            int parts = atOnce < 1 ? 0 : (Integer.bitCount(dots) + atOnce - 1) / atOnce;
            int dark = 0;
            preparePulses(dots);
            for (int part = 0; part < parts; part++) {
                int members = dotsOfPart(dots, part, parts, atOnce);
                int wait = waitOfPart(members);
                passTime(wait);
                totals.waits += wait;
                dark |= heatPart(members);
                passTime(longestPulse(members) / 10 + 1);
            }
            passTime(at(settings, FEED));
            lineBefore = lastLine;
            lastLine = dots;
            strip.addLine(dark, dots & ~dark, parts);
            totals.addLine(dots, dots & ~dark, parts);
            return totals.time - start;
        }

        private int dotsAtOnce() {
            int watts = at(settings, DOT_WATTS);
            return watts < 1 ? 1 : Math.max(1, at(settings, SUPPLY_WATTS) / watts);
        }

        /** A pulse hangs on the whole line, so that it is the same in whichever part the dot is. */
        private void preparePulses(int dots) {
            int value = at(settings, PULSE);
            for (int dot = 0; dot < pulses.length; dot++) {
                pulses[dot] = pulseIn(dots, dot, value);
            }
        }

        private int dotsOfPart(int dots, int part, int parts, int atOnce) {
            if (parts < 1 || atOnce < 1) {
                return 0;
            }
            boolean byTurns = at(settings, WAY) == 1;
            int members = 0;
            int place = 0;
            for (int dot = 0; dot < DOTS; dot++) {
                if (bitOf(dots, dot) == 1) {
                    int partOfDot = byTurns ? place % parts : place / atOnce;
                    if (partOfDot == part) {
                        members |= 1 << dot;
                    }
                    place++;
                }
            }
            return members;
        }

        /** Heat only falls while time passes, so that the part waits for its slowest dot alone. */
        private int waitOfPart(int members) {
            int bound = at(settings, BOUND);
            int wait = 0;
            for (int dot = 0; dot < DOTS; dot++) {
                if (bitOf(members, dot) == 1) {
                    wait = Math.max(wait, timeDownTo(at(heat, dot), bound - at(pulses, dot)));
                }
            }
            return wait;
        }

        /** Returns the dots of the part that are dark. */
        private int heatPart(int members) {
            int dark = 0;
            for (int dot = 0; dot < heat.length; dot++) {
                if (bitOf(members, dot) == 1) {
                    heat[dot] += at(pulses, dot);
                    totals.hottest = Math.max(totals.hottest, heat[dot]);
                    dark |= isDark(heat[dot]) ? 1 << dot : 0;
                }
            }
            return dark;
        }

        private int longestPulse(int members) {
            int longest = 0;
            for (int dot = 0; dot < pulses.length; dot++) {
                if (bitOf(members, dot) == 1) {
                    longest = Math.max(longest, pulses[dot]);
                }
            }
            return longest;
        }

        /** The pulse that the dot has in this line with this value of the setting. */
        private int pulseIn(int line, int dot, int setting) {
            int less = LESS_FOR_LAST * bitOf(lastLine, dot)
                + LESS_FOR_BEFORE * bitOf(lineBefore, dot)
                + LESS_FOR_NEIGHBOUR * (bitOf(line, dot - 1) + bitOf(line, dot + 1));
            return Math.max(SHORTEST_PULSE, setting + at(PAPER_PULSE, paperKind) - less);
        }

        private int pulseAlone(int dot, int setting) {
            return pulseIn(0, dot, setting);
        }

        private int waitFor(int startHeat, int pulse) {
            return timeDownTo(startHeat, at(settings, BOUND) - pulse);
        }

        private boolean isDark(int heatBehindPulse) {
            return heatBehindPulse >= at(PAPER_DARK, paperKind);
        }

        void passTime(int time) {
            for (int dot = 0; dot < heat.length; dot++) {
                heat[dot] = cooledFor(heat[dot], time);
            }
            totals.time += time;
        }

        private int cooledFor(int startHeat, int time) {
            int cooling = at(settings, COOLING);
            int left = startHeat;
            for (int i = 0; i < time && left > 0; i++) {
                left = cooled(left, cooling);
            }
            return left;
        }

        /** How long a heat takes to be at most this one, which is 0 or more. */
        private int timeDownTo(int startHeat, int most) {
            int cooling = at(settings, COOLING);
            int left = startHeat;
            int time = 0;
            while (left > most && time < MANY_STEPS) {
                left = cooled(left, cooling);
                time++;
            }
            return time;
        }

        private static int cooled(int hot, int cooling) {
            int left = cooling < 1 ? 0 : hot - hot / cooling - 1;
            return left < 0 ? 0 : left;
        }

        /** A hotter dot never becomes cooler than another one, so that the hottest one tells. */
        int timeUntilCool(int most) {
            return timeDownTo(hottestDot(), most);
        }

        int hottestDot() {
            int most = 0;
            for (int dot = 0; dot < heat.length; dot++) {
                most = Math.max(most, heat[dot]);
            }
            return most;
        }

        int leastDarkSetting(int dot) {
            int most = at(SETTING_MOST, PULSE);
            for (int value = at(SETTING_LEAST, PULSE); value <= most; value++) {
                int pulse = pulseAlone(dot, value);
                int start = at(heat, dot);
                if (isDark(cooledFor(start, waitFor(start, pulse)) + pulse)) {
                    return value;
                }
            }
            return NONE;
        }

        float mean() {
            int sum = 0;
            for (int dot = 0; dot < heat.length; dot++) {
                sum += heat[dot];
            }
            return (float) sum / 24.0f;
        }

        int numberOfDot(int dot, int what) {
            switch (what) {
                case 0: return at(heat, dot);
                case 1: return bitOf(lastLine, dot);
                case 2: return bitOf(lineBefore, dot);
                case 3: return at(totals.dotsOf, dot);
                case 4: return at(totals.faintOf, dot);
                case 5: return pulseAlone(dot, at(settings, PULSE));
                default: return waitFor(at(heat, dot), pulseAlone(dot, at(settings, PULSE)));
            }
        }
    }

    /** What is counted so far. */
    private static final class Totals {
        private final int[] dotsOf;
        private final int[] faintOf;
        private int time;
        private int lines;
        private int parts;
        private int waits;
        private int dots;
        private int faint;
        private int hottest;

        Totals() {
            dotsOf = new int[DOTS];
            faintOf = new int[DOTS];
            time = 0;
            lines = 0;
            parts = 0;
            waits = 0;
            dots = 0;
            faint = 0;
            hottest = 0;
        }

        void copyFrom(Totals other) {
            copyRow(other.dotsOf, dotsOf);
            copyRow(other.faintOf, faintOf);
            time = other.time;
            lines = other.lines;
            parts = other.parts;
            waits = other.waits;
            dots = other.dots;
            faint = other.faint;
            hottest = other.hottest;
        }

        void addLine(int lineDots, int faintDots, int lineParts) {
            lines++;
            parts += lineParts;
            dots += Integer.bitCount(lineDots);
            faint += Integer.bitCount(faintDots);
            addDots(dotsOf, lineDots);
            addDots(faintOf, faintDots);
        }

        private static void addDots(int[] row, int dots) {
            for (int dot = 0; dot < row.length; dot++) {
                row[dot] += bitOf(dots, dot);
            }
        }

        int dotByDot() {
            int sum = 0;
            for (int dot = 0; dot < dotsOf.length; dot++) {
                sum += dotsOf[dot];
            }
            return sum;
        }

        double darkShare() {
            return dots < 1 ? 1.0 : (double) (dots - faint) / (double) dots;
        }
    }

    /** The latest lines, the latest one at 0. */
    private static final class Strip {
        private static final int LINES = 12;

        private final int[] dark;
        private final int[] faint;
        private final int[] parts;
        private int size;

        Strip() {
            dark = new int[LINES];
            faint = new int[LINES];
            parts = new int[LINES];
            size = 0;
        }

        void copyFrom(Strip other) {
            copyRow(other.dark, dark);
            copyRow(other.faint, faint);
            copyRow(other.parts, parts);
            size = other.size;
        }

        void addLine(int darkDots, int faintDots, int lineParts) {
            pushFront(dark, darkDots);
            pushFront(faint, faintDots);
            pushFront(parts, lineParts);
            size = Math.min(LINES, size + 1);
        }

        private static void pushFront(int[] row, int value) {
            for (int i = row.length - 1; i > 0; i--) {
                row[i] = row[i - 1];
            }
            put(row, 0, value);
        }

        int numberOfLine(int back, int what) {
            if (back < 0 || back >= size) {
                return NONE;
            }
            switch (what) {
                case 0: return at(dark, back);
                case 1: return at(faint, back);
                default: return at(parts, back);
            }
        }

        /** A line of no dots has no part, and so no part behind the first one. */
        int textLength(int back) {
            return DOTS + Math.max(0, at(parts, back) - 1);
        }

        int sign(int back, int index) {
            if (back < 0 || back >= size || index < 0 || index >= textLength(back)) {
                return NONE;
            }
            if (index >= DOTS) {
                return '|';
            }
            if (bitOf(at(dark, back), index) == 1) {
                return '#';
            }
            return bitOf(at(faint, back), index) == 1 ? '+' : '.';
        }
    }

    /** The input text. */
    private static final class Buffer {
        private static final int MOST_CODES = 60;

        private final int[] codes;
        private int length;

        Buffer() {
            codes = new int[MOST_CODES];
            length = 0;
        }

        boolean isFull() {
            return length >= codes.length;
        }

        void addCode(int code) {
            put(codes, length, code);
            length++;
        }

        int codeAt(int index) {
            return at(codes, index);
        }
    }

    /** Reads prints as a text, a character at a time, and holds the part that it is in. */
    private static final class Reader {
        private static final int NO_KIND = 0;
        private static final int A_LINE = 1;
        private static final int A_PAPER = 2;
        private static final int A_REST = 3;
        private static final int AN_EMPTY = 4;

        private static final int AT_START = 0;
        private static final int IN_WORD = 1;
        private static final int IN_DOTS = 2;
        private static final int AT_PAPER = 3;
        private static final int IN_NUMBER = 4;
        private static final int AT_END = 5;

        private static final int BETWEEN_PARTS = ';';
        private static final int DOTS_DIGITS = 6;

        private int mode;
        private int modeBehindWord;
        private String word;
        private int wordAt;
        private int kind;
        private int dots;
        private int dotsDigits;
        private int paperKind;
        private int number;
        private int numberMost;

        Reader() {
            word = "";
            wordAt = 0;
            mode = AT_START;
            modeBehindWord = AT_START;
            kind = NO_KIND;
            dots = 0;
            dotsDigits = 0;
            paperKind = PLAIN;
            number = 0;
            numberMost = 0;
        }

        void beginPart() {
            mode = AT_START;
            kind = NO_KIND;
            dots = 0;
            dotsDigits = 0;
            number = 0;
        }

        /** Returns the index of the first character that is an error, or the length. */
        int readUntilError(Buffer text) {
            beginPart();
            for (int i = 0; i < text.length; i++) {
                if (!take(text.codeAt(i))) {
                    return i;
                }
            }
            return text.length;
        }

        /** Whether the text may end here. */
        boolean isComplete() {
            return mode == AT_END
                || mode == IN_DOTS && dotsDigits == DOTS_DIGITS
                || mode == IN_NUMBER && number > 0;
        }

        /** Returns false, and stays where it is, if the character is an error. */
        boolean take(int code) {
            if (code == BETWEEN_PARTS) {
                return takeBetween();
            }
            switch (mode) {
                case AT_START: return takeFirst(code);
                case IN_WORD: return takeOfWord(code);
                case IN_DOTS: return takeOfDots(code);
                case AT_PAPER: return takeFirstOfPaper(code);
                case IN_NUMBER: return takeDigit(code);
                default: return false;
            }
        }

        private boolean takeBetween() {
            if (!isComplete()) {
                return false;
            }
            beginPart();
            return true;
        }

        private boolean takeFirst(int code) {
            switch (code) {
                case 'l': return beginKind(A_LINE, "line", IN_DOTS);
                case 'p': return beginKind(A_PAPER, "paper:", AT_PAPER);
                case 'r':
                    numberMost = LONGEST_REST;
                    return beginKind(A_REST, "rest", IN_NUMBER);
                case 'e': return beginKind(AN_EMPTY, "empty", AT_END);
                default: return false;
            }
        }

        private boolean takeFirstOfPaper(int code) {
            switch (code) {
                case 'p': return beginPaper(PLAIN, "plain");
                case 'f': return beginPaper(FINE, "fine");
                case 'l': return beginPaper(LABEL, "label");
                default: return false;
            }
        }

        private boolean beginKind(int newKind, String newWord, int behind) {
            kind = newKind;
            return beginWord(newWord, behind);
        }

        private boolean beginPaper(int newPaper, String newWord) {
            paperKind = newPaper;
            return beginWord(newWord, AT_END);
        }

        /** The first character of the word is taken already: it told which word it is. */
        private boolean beginWord(String newWord, int behind) {
            word = newWord;
            wordAt = 1;
            modeBehindWord = behind;
            mode = IN_WORD;
            return true;
        }

        private boolean takeOfWord(int code) {
            if (wordAt < 0 || wordAt >= word.length() || word.charAt(wordAt) != code) {
                return false;
            }
            wordAt++;
            if (wordAt == word.length()) {
                mode = modeBehindWord;
            }
            return true;
        }

        private boolean takeOfDots(int code) {
            if (dotsDigits >= DOTS_DIGITS) {
                return takeStar(code);
            }
            int digit = hexDigit(code);
            if (digit < 0) {
                return false;
            }
            dots = dots * 16 + digit;
            dotsDigits++;
            return true;
        }

        private boolean takeStar(int code) {
            if (code != '*') {
                return false;
            }
            numberMost = MOST_TIMES;
            mode = IN_NUMBER;
            return true;
        }

        /** A number of 0 is one that has not begun, so that no number begins with the digit 0. */
        private boolean takeDigit(int code) {
            if (!isWithin(code, '0', '9')) {
                return false;
            }
            int longer = number * 10 + (code - '0');
            if (!isWithin(longer, 1, numberMost)) {
                return false;
            }
            number = longer;
            return true;
        }

        private static int hexDigit(int code) {
            if (isWithin(code, '0', '9')) {
                return code - '0';
            }
            return isWithin(code, 'a', 'f') ? code - 'a' + 10 : NONE;
        }
    }
}
