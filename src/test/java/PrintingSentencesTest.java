/** Promises 1 to 6, and the use for 512 calls: each sentence with its boundaries. */
public final class PrintingSentencesTest {
    private static final int ALL = Heads.ALL;
    private static final int[] WRONG_DOTS = {Integer.MIN_VALUE, -1, ALL + 1, ALL + 2, Integer.MAX_VALUE};

    private static void usedForSoManyCalls() {
        Check.holds("What it is", "An object is used for at most 512 calls after it has been made;");
        HeadDots head = new HeadDots();
        int time = 0;
        for (int call = 1; call < 512; call++) {
            time += head.line(ALL);
        }
        Check.due("the time of 511 lines", time, head.count(0));
        head = new HeadDots();
        head.set(4, 1);
        for (int call = 2; call < 512; call++) {
            head.lines(ALL, 20);
        }
        Check.due("the dots of 510 times 20 lines", 510 * 20 * 24, head.count(4));
        head = new HeadDots();
        for (int call = 1; call < 512; call++) {
            head.rest(999);
        }
        Check.due("the time of 511 rests", 511 * 999, head.count(0));
        head = new HeadDots();
        for (int round = 0; round < 8; round++) {
            Check.type(head, "empty".repeat(12));
            Check.due("the buffer, again and again", 60, head.clearBuffer());
        }
        Check.type(head, "line00ff0f*20;paper:fi");
        Check.due("the buffer behind 510 calls", 22, head.firstError());
        Check.due("the buffer behind 511 calls", 22, head.clearBuffer());
        undoOfManyCalls();
    }

    private static void undoOfManyCalls() {
        HeadDots head = new HeadDots();
        for (int call = 1; call <= 500; call++) {
            head.rest(1);
        }
        for (int left = 5; left >= 0; left--) {
            Check.due("undo behind 500 calls", left, head.undo());
        }
        Check.due("the time that is left", 494, head.count(0));
        head = new HeadDots();
        for (int call = 0; call < 127; call++) {
            head.keep();
            head.line(call);
            head.restore();
            head.undo();
        }
        Check.due("lines behind 508 calls", 127, head.count(1));
        Check.due("saved states behind 509 calls", 5, head.count(18));
    }

    private static void newHead() {
        Check.holds("Promise 1", "Creates a cold head, with plain paper and an empty strip, without a snapshot, with an"
            + " empty buffer.");
        HeadDots head = new HeadDots();
        for (int dot = 0; dot < 24; dot++) {
            Check.due("heat of dot " + dot, 0, head.dot(dot, 0));
        }
        Check.due("paper", 0, head.count(9));
        Check.due("lines of the strip", 0, head.count(10));
        Check.due("the latest line", HeadDots.NONE, head.kept(0, 0));
        Check.due("the oldest line", HeadDots.NONE, head.kept(11, 2));
        Check.due("saved states", 0, head.count(18));
        for (int what = 0; what <= 8; what++) {
            Check.due("count " + what, 0, head.count(what));
        }
        Check.dueText("no snapshot", Check.STATE, Check.outcome(head::restore));
        Check.dueText("no saved state", Check.STATE, Check.outcome(head::undo));
        Check.due("no error", 0, head.firstError());
        Check.due("the buffer", 0, head.clearBuffer());
        HeadDots other = Heads.busy();
        other.keep();
        Check.due("two heads have nothing in common", 0, head.count(1));
        Check.dueText("two heads have no snapshot in common", Check.STATE, Check.outcome(head::restore));
        Check.dueSame("a new head behind another one", head, new HeadDots());
    }

    /** The call saves one state, from which undo brings back what was before it. */
    private static void dueUndoable(String what, Check.Maker maker, Check.CallOn call) {
        HeadDots head = maker.make();
        int before = head.count(18);
        call.answer(head);
        Check.due(what + ": saved states", Math.min(6, before + 1), head.count(18));
        Check.due(what + ": undo", Math.min(5, before), head.undo());
        long due = Check.stateOf(maker.make());
        Check.due(what + ": the state behind undo", due, Check.stateOf(head));
    }

    private static void dueUndoable(String what, Check.CallOn call) {
        dueUndoable(what + " of a new head", HeadDots::new, call);
        dueUndoable(what + " of a busy head", Heads::busy, call);
        dueUndoable(what + " of a full strip", Heads::fullStrip, call);
    }

    private static void printsALine() {
        Check.holds("Promise 2", "Prints a line. Undoable.");
        dueUndoable("line", h -> h.line(0x00ff0f));
        dueUndoable("line of no dots", h -> h.line(0));
        dueUndoable("line of all dots", h -> h.line(ALL));
        HeadDots head = new HeadDots();
        head.set(6, 0);
        Check.due("a line of no dots that takes no time", 0, head.line(0));
        Check.due("it is one too", 1, head.count(1));
        Check.due("it is on the strip", 1, head.count(10));
        Check.due("it is saved too", 2, head.count(18));
    }

    private static void dotsOfALine() {
        Check.holds("Promise 2", "`dots`: 0 to 16777215");
        int[] most = {0, 1, ALL - 1, ALL};
        int[] due = {0, 1, 23, 24};
        for (int i = 0; i < most.length; i++) {
            HeadDots head = new HeadDots();
            head.line(most[i]);
            Check.due("dots of line " + most[i], due[i], head.count(4));
        }
    }

    private static void timeOfALine() {
        Check.holds("Promise 2", "Returns the time that it took, with the feed.");
        Check.due("no dots", 5, new HeadDots().line(0));
        Check.due("one dot", 13 + 5, new HeadDots().line(1));
        Check.due("two parts", 12 + 12 + 5, new HeadDots().line(ALL));
        HeadDots head = Heads.withHeat(0, 100);
        head.set(0, 300);
        head.set(2, 330);
        head.set(6, 50);
        Check.due("a wait, a pulse of 280, and the feed", 50 + 29 + 50, head.line(1));
        Check.due("not the time so far", 50, head.line(0));
    }

    private static void wrongLine() {
        Check.holds("Promise 2", "Throws `IllegalArgumentException` if dots is out of range");
        for (int dots : WRONG_DOTS) {
            Check.dueRefused("line " + dots, Check.ARGUMENT, Heads::busy, h -> h.line(dots));
            Check.dueRefused("line " + dots + " of a new head", Check.ARGUMENT, HeadDots::new, h -> h.line(dots));
        }
    }

    private static void printsSomeLines() {
        Check.holds("Promise 3", "Prints a line some times, one behind the other. Undoable, as one call.");
        for (int times : new int[] {1, 2, 12, 13, 20}) {
            HeadDots head = Heads.busy();
            HeadDots other = Heads.busy();
            head.lines(0x123456, times);
            for (int i = 0; i < times; i++) {
                other.line(0x123456);
            }
            Check.due(times + " lines", Check.stateOf(other), Check.stateOf(head));
            dueUndoable(times + " lines", h -> h.lines(0x00ff0f, times));
        }
    }

    private static void dotsOfSomeLines() {
        Check.holds("Promise 3", "`dots`: 0 to 16777215");
        HeadDots head = new HeadDots();
        head.lines(0, 2);
        Check.due("dots of lines 0", 0, head.count(4));
        head.lines(ALL, 2);
        Check.due("dots of lines 16777215", 48, head.count(4));
    }

    private static void someTimes() {
        Check.holds("Promise 3", "`times`: 1 to 20");
        HeadDots head = new HeadDots();
        head.lines(1, 1);
        Check.due("once", 1, head.count(1));
        head.lines(1, 20);
        Check.due("20 times", 21, head.count(1));
    }

    private static void faintDotsOfSomeLines() {
        Check.holds("Promise 3", "Returns how many dots were faint in these lines.");
        HeadDots head = new HeadDots();
        Check.due("no dots", 0, head.lines(0, 20));
        Check.due("a dark dot", 0, head.lines(1, 1));
        head.set(0, 50);
        head.set(1, 5);
        head.set(6, 50);
        Check.due("all faint, 20 times", 20 * 24, head.lines(ALL, 20));
        Check.due("all faint, once", 24, head.lines(ALL, 1));
        Check.due("not those before", 2, head.lines(0b101, 1));
        HeadDots warm = Heads.withHeat(0, 0);
        warm.set(0, 125);
        Check.due("105 is faint, then it is dark", 1, warm.lines(1, 3));
        Check.due("told dot by dot", 1, warm.dot(0, 4));
    }

    private static void wrongLines() {
        Check.holds("Promise 3", "Throws `IllegalArgumentException` if dots or times is out of range");
        for (int dots : WRONG_DOTS) {
            Check.dueRefused("lines " + dots, Check.ARGUMENT, Heads::busy, h -> h.lines(dots, 1));
            Check.dueRefused("lines " + dots + ", 20 times", Check.ARGUMENT, Heads::busy, h -> h.lines(dots, 20));
            Check.dueRefused("lines " + dots + ", 0 times", Check.ARGUMENT, Heads::busy, h -> h.lines(dots, 0));
        }
        for (int times : new int[] {Integer.MIN_VALUE, -1, 0, 21, Integer.MAX_VALUE}) {
            Check.dueRefused("lines " + times + " times", Check.ARGUMENT, Heads::busy, h -> h.lines(1, times));
            Check.dueRefused("lines of no dots " + times + " times", Check.ARGUMENT, HeadDots::new,
                h -> h.lines(0, times));
        }
    }

    private static void letsTimePass() {
        Check.holds("Promise 4", "Lets time pass. Undoable.");
        dueUndoable("rest 1", h -> h.rest(1));
        dueUndoable("rest 999", h -> h.rest(999));
        HeadDots head = Heads.withHeat(5, 100);
        int before = head.count(0);
        head.rest(40);
        Check.due("heat", 60, head.dot(5, 0));
        Check.due("time", before + 40, head.count(0));
        Check.due("lines", 1, head.count(1));
        Check.due("the last line stays", 1, head.dot(5, 1));
        Check.due("no wait", 0, head.count(3));
    }

    private static void timesOfARest() {
        Check.holds("Promise 4", "`time`: 1 to 999");
        for (int time : new int[] {1, 2, 998, 999}) {
            HeadDots head = new HeadDots();
            head.rest(time);
            Check.due("rest " + time, time, head.count(0));
        }
    }

    private static void greatestHeatOfARest() {
        Check.holds("Promise 4", "Returns the greatest heat of a dot then.");
        Check.due("a cold head", 0, new HeadDots().rest(1));
        Check.due("the first dot is the hottest", 149, Heads.withHeat(0, 150).rest(1));
        Check.due("the last dot is the hottest", 149, Heads.withHeat(23, 150).rest(1));
        Check.due("just cold", 0, Heads.withHeat(9, 150).rest(150));
        Check.due("nearly cold", 1, Heads.withHeat(9, 150).rest(149));
        Check.due("not below 0", 0, Heads.withHeat(9, 150).rest(151));
        HeadDots head = Heads.withHeat(9, 50);
        head.line(1 << 4);
        Check.due("the hottest of two", 120 - 13 - 7, head.rest(7));
    }

    private static void wrongRest() {
        Check.holds("Promise 4", "Throws `IllegalArgumentException` if time is out of range");
        for (int time : new int[] {Integer.MIN_VALUE, -1, 0, 1000, 1001, Integer.MAX_VALUE}) {
            Check.dueRefused("rest " + time, Check.ARGUMENT, Heads::busy, h -> h.rest(time));
            Check.dueRefused("rest " + time + " of a new head", Check.ARGUMENT, HeadDots::new, h -> h.rest(time));
        }
    }

    private static void changesThePaper() {
        Check.holds("Promise 5", "Changes the paper; the strip is new then, without lines. Undoable.");
        for (int paper = 0; paper <= 2; paper++) {
            int number = paper;
            dueUndoable("paper " + paper, h -> h.paper(number));
            HeadDots head = Heads.fullStrip();
            HeadDots other = Heads.fullStrip();
            head.paper(paper);
            Check.due("the paper", paper, head.count(9));
            Check.due("lines of the strip", 0, head.count(10));
            for (int back = 0; back < 12; back++) {
                Check.due("line " + back, HeadDots.NONE, head.kept(back, 2));
                Check.due("line " + back + ", told", HeadDots.NONE, head.told(back, 0));
            }
            int[] stay = {0, 1, 2, 3, 4, 5, 6, 7, 8, 11, 12, 13, 14, 15, 16, 17};
            for (int what : stay) {
                Check.due("count " + what, other.count(what), head.count(what));
            }
            for (int dot = 0; dot < 24; dot++) {
                for (int what = 0; what <= 4; what++) {
                    Check.due("dot " + dot + ", " + what, other.dot(dot, what), head.dot(dot, what));
                }
            }
            head.line(0b100);
            Check.due("a line of the new strip", 1, head.count(10));
            Check.due("none behind it", HeadDots.NONE, head.kept(1, 0));
        }
    }

    private static void papers() {
        Check.holds("Promise 5", "`paper`: 0 to 2");
        for (int paper = 0; paper <= 2; paper++) {
            HeadDots head = new HeadDots();
            head.paper(paper);
            Check.due("paper", paper, head.count(9));
        }
    }

    private static void linesOfTheOldStrip() {
        Check.holds("Promise 5", "Returns how many lines the old strip had.");
        for (int lines = 0; lines <= 14; lines++) {
            HeadDots head = new HeadDots();
            for (int i = 0; i < lines; i++) {
                head.line(i);
            }
            Check.due("behind " + lines + " lines", Math.min(12, lines), head.paper(lines % 3));
            Check.due("a strip without lines", 0, head.paper(lines % 2));
        }
    }

    private static void wrongPaper() {
        Check.holds("Promise 5", "Throws `IllegalArgumentException` if paper is out of range");
        for (int paper : new int[] {Integer.MIN_VALUE, -1, 3, 4, Integer.MAX_VALUE}) {
            Check.dueRefused("paper " + paper, Check.ARGUMENT, Heads::busy, h -> h.paper(paper));
            Check.dueRefused("paper " + paper + " of a full strip", Check.ARGUMENT, Heads::fullStrip,
                h -> h.paper(paper));
        }
    }

    private static final int[][] RANGES = {{50, 300}, {5, 200}, {330, 900}, {1, 20}, {1, 200}, {0, 1}, {0, 50}};

    private static void changesASetting() {
        Check.holds("Promise 6", "Changes a setting. Undoable.");
        for (int setting = 0; setting <= 6; setting++) {
            int number = setting;
            dueUndoable("set " + setting, h -> h.set(number, RANGES[number][0]));
            dueUndoable("set " + setting, h -> h.set(number, RANGES[number][1]));
            dueUndoable("set " + setting + " to what it is", h -> h.set(number, h.count(11 + number)));
            HeadDots head = Heads.busy();
            HeadDots other = Heads.busy();
            head.set(setting, RANGES[setting][1]);
            for (int what = 0; what < 18; what++) {
                int due = what == 11 + setting ? RANGES[setting][1] : other.count(what);
                Check.due("set " + setting + ": count " + what, due, head.count(what));
            }
        }
    }

    private static void sevenSettings() {
        Check.holds("Promise 6", "`setting`: 0 to 6");
        Check.due("setting 0", 120, new HeadDots().set(0, 120));
        Check.due("setting 6", 5, new HeadDots().set(6, 5));
    }

    private static void newValue() {
        Check.holds("Promise 6", "`value`: the new value");
        for (int setting = 0; setting <= 6; setting++) {
            for (int end = 0; end <= 1; end++) {
                HeadDots head = new HeadDots();
                head.set(setting, RANGES[setting][end]);
                Check.due("setting " + setting, RANGES[setting][end], head.count(11 + setting));
            }
        }
    }

    private static void previousValue() {
        Check.holds("Promise 6", "Returns the previous value.");
        int[] first = {120, 40, 500, 8, 100, 0, 5};
        for (int setting = 0; setting <= 6; setting++) {
            HeadDots head = new HeadDots();
            Check.due("setting " + setting, first[setting], head.set(setting, RANGES[setting][1]));
            Check.due("setting " + setting, RANGES[setting][1], head.set(setting, RANGES[setting][1]));
            Check.due("setting " + setting, RANGES[setting][1], head.set(setting, RANGES[setting][0]));
            Check.due("setting " + setting, RANGES[setting][0], head.set(setting, RANGES[setting][0]));
        }
    }

    private static void noSuchSetting() {
        Check.holds("Promise 6", "Throws `IndexOutOfBoundsException` if there is no such setting");
        for (int setting : new int[] {Integer.MIN_VALUE, -1, 7, 8, Integer.MAX_VALUE}) {
            for (int value : new int[] {Integer.MIN_VALUE, -1, 0, 1, 100, 400, Integer.MAX_VALUE}) {
                Check.dueRefused("set(" + setting + ", " + value + ")", Check.INDEX, Heads::busy,
                    h -> h.set(setting, value));
            }
        }
    }

    private static void wrongValue() {
        Check.holds("Promise 6", "Throws `IllegalArgumentException` if value is out of range");
        for (int setting = 0; setting <= 6; setting++) {
            int number = setting;
            int[] values = {RANGES[setting][0] - 1, RANGES[setting][1] + 1, Integer.MIN_VALUE, Integer.MAX_VALUE};
            for (int value : values) {
                Check.dueRefused("set(" + setting + ", " + value + ")", Check.ARGUMENT, Heads::busy,
                    h -> h.set(number, value));
            }
        }
    }

    public static void main(String[] args) {
        Check.runAll(
            PrintingSentencesTest::usedForSoManyCalls,
            PrintingSentencesTest::newHead,
            PrintingSentencesTest::printsALine,
            PrintingSentencesTest::dotsOfALine,
            PrintingSentencesTest::timeOfALine,
            PrintingSentencesTest::wrongLine,
            PrintingSentencesTest::printsSomeLines,
            PrintingSentencesTest::dotsOfSomeLines,
            PrintingSentencesTest::someTimes,
            PrintingSentencesTest::faintDotsOfSomeLines,
            PrintingSentencesTest::wrongLines,
            PrintingSentencesTest::letsTimePass,
            PrintingSentencesTest::timesOfARest,
            PrintingSentencesTest::greatestHeatOfARest,
            PrintingSentencesTest::wrongRest,
            PrintingSentencesTest::changesThePaper,
            PrintingSentencesTest::papers,
            PrintingSentencesTest::linesOfTheOldStrip,
            PrintingSentencesTest::wrongPaper,
            PrintingSentencesTest::changesASetting,
            PrintingSentencesTest::sevenSettings,
            PrintingSentencesTest::newValue,
            PrintingSentencesTest::previousValue,
            PrintingSentencesTest::noSuchSetting,
            PrintingSentencesTest::wrongValue);
        Check.dueAllHeld("Promise 1", "Promise 2", "Promise 3", "Promise 4", "Promise 5", "Promise 6");
        Check.end();
    }
}
