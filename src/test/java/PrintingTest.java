/** Promises 1 to 6: a new object, line, lines, rest, paper, set. */
public final class PrintingTest {
    private static final int ALL = 16777215;

    private static void newObject() {
        HeadDots head = new HeadDots();
        int[] due = {0, 0, 0, 0, 0, 0, 0, 0, 0, 0, 0, 120, 40, 500, 8, 100, 0, 5, 0};
        for (int what = 0; what < due.length; what++) {
            Check.due("new: count " + what, due[what], head.count(what));
        }
        for (int dot = 0; dot < 24; dot++) {
            for (int what = 0; what < 7; what++) {
                Check.due("new: dot " + dot + " " + what, what == 5 ? 120 : 0, head.dot(dot, what));
            }
        }
        Check.due("new: kept", HeadDots.NONE, head.kept(0, 0));
        Check.due("new: told", HeadDots.NONE, head.told(0, 0));
        Check.due("new: clearBuffer", 0, head.clearBuffer());
        Check.dueThrow("new: undo", Check.STATE, head, head::undo);
        Check.dueThrow("new: restore", Check.STATE, head, head::restore);
    }

    /** Dots 0 to 2: pulses 115, 110, 115; 12 ms for the part and 5 for the feed. */
    private static void heatAndPulses() {
        HeadDots head = new HeadDots();
        Check.due("line 7", 17, head.line(7));
        Check.due("heat of dot 0", 69, head.dot(0, 0));
        Check.due("heat of dot 1", 65, head.dot(1, 0));
        Check.due("heat of dot 2", 69, head.dot(2, 0));
        Check.due("heat of dot 3", 0, head.dot(3, 0));
        Check.due("pulse after one line", 100, head.dot(1, 5));
        head.line(2);
        Check.due("pulse after two lines", 90, head.dot(1, 5));
        Check.due("pulse of the line before alone", 110, head.dot(0, 5));
        Check.due("pulse of none", 120, head.dot(3, 5));
        head.line(0);
        Check.due("a line of no dots is one too", 110, head.dot(1, 5));
        head.line(0);
        Check.due("two lines of no dots", 120, head.dot(1, 5));
    }

    private static void shortestPulse() {
        HeadDots head = new HeadDots();
        head.set(0, 50);
        head.paper(1);
        Check.due("50 - 15", 35, head.dot(0, 5));
        head.lines(1, 2);
        Check.due("50 - 15 - 20 - 10 is at least 20", 20, head.dot(0, 5));
        head.paper(2);
        Check.due("50 + 25 - 20 - 10", 45, head.dot(0, 5));
    }

    private static void coolingOfEachMillisecond() {
        HeadDots head = new HeadDots();
        head.set(6, 0);
        head.set(1, 5);
        head.line(1);
        // 120, then 13 ms: 95 75 59 47 37 29 23 18 14 11 8 6 4
        Check.due("heat behind a line", 4, head.dot(0, 0));
        Check.due("rest 1", 3, head.rest(1));
        Check.due("rest 2", 1, head.rest(2));
        Check.due("rest 1 to 0", 0, head.rest(1));
        Check.due("rest stays at 0", 0, head.rest(1));
    }

    /** The bound: 300 and 325 are at most 330 at once, then the second pulse must wait. */
    private static void waits() {
        HeadDots head = new HeadDots();
        head.set(0, 300);
        head.set(2, 330);
        head.set(6, 0);
        head.line(1);
        int heat = head.dot(0, 0);
        int pulse = head.dot(0, 5);
        Check.due("pulse", 280, pulse);
        int wait = 0;
        while (heat + pulse > 330) {
            heat = heat - heat / 40 - 1;
            wait++;
        }
        Check.due("there is a wait", 1, wait > 1 ? 1 : 0);
        Check.due("dot 0 6", wait, head.dot(0, 6));
        Check.due("line that waits", wait + 29, head.line(1));
        Check.due("waits so far", wait, head.count(3));
        Check.due("time so far", 31 + wait + 29, head.count(0));
        Check.due("hottest so far", heat + pulse, head.count(8));
    }

    /** A heat and a pulse that are 330 together do not wait; 331 do. */
    private static void waitAtTheVeryBound() {
        for (int bound = 330; bound <= 331; bound++) {
            HeadDots head = new HeadDots();
            head.set(1, 200);
            head.set(6, 0);
            head.set(0, 220);
            head.line(1);
            head.set(2, bound);
            head.set(0, 331 - head.dot(0, 0) + 20);
            Check.due("heat and pulse", 331, head.dot(0, 0) + head.dot(0, 5));
            Check.due("wait with bound " + bound, 331 - bound, head.dot(0, 6));
        }
    }

    private static void parts() {
        HeadDots head = new HeadDots();
        head.set(6, 0);
        head.set(3, 10);
        head.set(4, 39);
        Check.due("no part", 0, head.line(0));
        head.line(7);
        Check.due("3 dots are one part", 1, head.kept(0, 2));
        head.line(15);
        Check.due("4 dots are two parts", 2, head.kept(0, 2));
        head.line(ALL);
        Check.due("24 dots are 8 parts", 8, head.kept(0, 2));
        Check.due("parts so far", 11, head.count(2));
        head.set(4, 9);
        head.line(3);
        Check.due("at least one at once", 2, head.kept(0, 2));
    }

    /** 16 dots print first, behind one another; by turns the parts are the even and the odd dots. */
    private static void behindOneAnotherOrByTurns() {
        for (int way = 0; way <= 1; way++) {
            HeadDots head = new HeadDots();
            head.set(5, way);
            head.set(3, 1);
            head.set(4, 16);
            head.line(ALL);
            Check.due("parts", 2, head.kept(0, 2));
            for (int dot = 1; dot < 23; dot++) {
                boolean first = way == 0 ? dot < 16 : dot % 2 == 0;
                Check.due("way " + way + ": dot " + dot + " has less heat left of the first part",
                    first ? 1 : 0, head.dot(dot, 0) < 55 ? 1 : 0);
            }
        }
        HeadDots head = new HeadDots();
        head.set(5, 1);
        head.set(3, 1);
        head.set(4, 2);
        head.line(0b101010101);
        Check.due("5 dots by 2", 3, head.kept(0, 2));
        Check.due("dots 0 and 6 are one part", head.dot(0, 0), head.dot(6, 0));
        Check.due("dots 2 and 8 are one part", head.dot(2, 0), head.dot(8, 0));
        Check.due("dot 4 is the last part", 1, head.dot(4, 0) > head.dot(2, 0) ? 1 : 0);
        Check.due("dot 2 is behind dot 0", 1, head.dot(2, 0) > head.dot(0, 0) ? 1 : 0);
    }

    /** Each part takes its own longest pulse: 120 and 115 take 13 and 12 ms. */
    private static void timeOfParts() {
        HeadDots head = new HeadDots();
        head.set(6, 50);
        head.set(4, 8);
        Check.due("pulses of 115 and 115", 74, head.line(3));
        head = new HeadDots();
        head.set(6, 0);
        head.set(4, 8);
        Check.due("pulses of 120, 115 and 115", 37, head.line(0b1101));
    }

    private static void faintAndDark() {
        int[] due = {110, 90, 150};
        int[] brings = {0, -15, 25};
        for (int paper = 0; paper < 3; paper++) {
            HeadDots head = new HeadDots();
            head.paper(paper);
            head.set(0, due[paper] - brings[paper]);
            head.line(1 << 23);
            Check.due("dark on " + paper, 1 << 23, head.kept(0, 0));
            Check.due("not faint on " + paper, 0, head.kept(0, 1));
            head = new HeadDots();
            head.paper(paper);
            head.set(0, due[paper] - brings[paper] - 1);
            head.line(1 << 23);
            Check.due("not dark on " + paper, 0, head.kept(0, 0));
            Check.due("faint on " + paper, 1 << 23, head.kept(0, 1));
        }
    }

    private static void manyLines() {
        HeadDots head = new HeadDots();
        head.set(0, 60);
        head.set(1, 5);
        head.set(6, 50);
        Check.due("faint dots of one line", 2, head.lines(5, 1));
        Check.due("faint dots of 20 lines", 60, head.lines(7, 20));
        Check.due("lines so far", 21, head.count(1));
        Check.due("one state is saved by each", 5, head.count(18));
        Check.due("faint so far", 62, head.count(6));
        head.undo();
        Check.due("undo of 20 lines", 1, head.count(1));
        head = new HeadDots();
        Check.due("no faint dots", 0, head.lines(1, 20));
        HeadDots other = new HeadDots();
        for (int i = 0; i < 20; i++) {
            other.line(1);
        }
        Check.due("as 20 lines", other.dot(0, 0), head.dot(0, 0));
        Check.due("as long as 20 lines", other.count(0), head.count(0));
    }

    private static void rests() {
        HeadDots head = new HeadDots();
        head.line(1);
        int time = head.count(0);
        head.rest(7);
        Check.due("time of a rest", time + 7, head.count(0));
        Check.due("no wait", 0, head.count(3));
        Check.due("a rest is no line", 1, head.dot(0, 1));
        Check.due("longest rest", 0, head.rest(999));
        Check.due("time of both", time + 1006, head.count(0));
        Check.due("saved states", 3, head.count(18));
    }

    private static void papers() {
        HeadDots head = new HeadDots();
        Check.due("empty strip", 0, head.paper(0));
        head.lines(1, 11);
        Check.due("same paper, new strip", 11, head.paper(0));
        Check.due("no lines", 0, head.count(10));
        Check.due("told", HeadDots.NONE, head.told(0, 0));
        Check.due("kept", HeadDots.NONE, head.kept(0, 2));
        Check.due("the last lines stay", 90, head.dot(0, 5));
        head.lines(1, 13);
        Check.due("at most 12 are kept", 12, head.paper(2));
        Check.due("paper", 2, head.count(9));
        Check.due("lines so far", 24, head.count(1));
        head.undo();
        Check.due("the old strip", 12, head.count(10));
        Check.due("the old paper", 0, head.count(9));
    }

    private static void settings() {
        int[][] range = {{50, 300}, {5, 200}, {330, 900}, {1, 20}, {1, 200}, {0, 1}, {0, 50}};
        int[] first = {120, 40, 500, 8, 100, 0, 5};
        for (int setting = 0; setting <= 6; setting++) {
            int number = setting;
            HeadDots head = new HeadDots();
            Check.due("set " + setting, first[setting], head.set(setting, range[setting][0]));
            Check.due("set " + setting, range[setting][0], head.set(setting, range[setting][1]));
            Check.due("set " + setting + " again", range[setting][1],
                head.set(setting, range[setting][1]));
            Check.due("count of the setting", range[setting][1], head.count(11 + setting));
            Check.due("saved, also without a change", 3, head.count(18));
            Check.dueThrow("below " + setting, Check.ARGUMENT, head,
                () -> head.set(number, range[number][0] - 1));
            Check.dueThrow("above " + setting, Check.ARGUMENT, head,
                () -> head.set(number, range[number][1] + 1));
            Check.dueThrow("far above " + setting, Check.ARGUMENT, head,
                () -> head.set(number, Integer.MAX_VALUE));
        }
    }

    private static void wrongInputs() {
        HeadDots head = new HeadDots();
        head.lines(ALL, 3);
        int[] far = {Integer.MIN_VALUE, -1, Integer.MAX_VALUE};
        for (int number : far) {
            Check.dueThrow("line", Check.ARGUMENT, head, () -> head.line(number));
            Check.dueThrow("lines", Check.ARGUMENT, head, () -> head.lines(number, 1));
            Check.dueThrow("lines", Check.ARGUMENT, head, () -> head.lines(1, number));
            Check.dueThrow("rest", Check.ARGUMENT, head, () -> head.rest(number));
            Check.dueThrow("paper", Check.ARGUMENT, head, () -> head.paper(number));
            Check.dueThrow("set", Check.INDEX, head, () -> head.set(number, 100));
            Check.dueThrow("set, both wrong", Check.INDEX, head, () -> head.set(number, -1));
        }
        Check.dueThrow("line", Check.ARGUMENT, head, () -> head.line(ALL + 1));
        Check.dueThrow("lines", Check.ARGUMENT, head, () -> head.lines(ALL + 1, 1));
        Check.dueThrow("lines 0", Check.ARGUMENT, head, () -> head.lines(1, 0));
        Check.dueThrow("lines 21", Check.ARGUMENT, head, () -> head.lines(1, 21));
        Check.dueThrow("rest 0", Check.ARGUMENT, head, () -> head.rest(0));
        Check.dueThrow("rest 1000", Check.ARGUMENT, head, () -> head.rest(1000));
        Check.dueThrow("paper 3", Check.ARGUMENT, head, () -> head.paper(3));
        Check.dueThrow("set 7", Check.INDEX, head, () -> head.set(7, 1));
        Check.due("saved states", 1, head.count(18));
        Check.dueText("line 0", "5", Check.outcome(() -> head.line(0)));
        Check.dueText("lines 20", "0", Check.outcome(() -> head.lines(0, 20)));
    }

    public static void main(String[] args) {
        newObject();
        heatAndPulses();
        shortestPulse();
        coolingOfEachMillisecond();
        waits();
        waitAtTheVeryBound();
        parts();
        behindOneAnotherOrByTurns();
        timeOfParts();
        faintAndDark();
        manyLines();
        rests();
        papers();
        settings();
        wrongInputs();
        Check.end();
    }
}
