/** Promises 15 to 17: each sentence with its boundaries. */
public final class LooksSentencesTest {
    private static final int ALL = Heads.ALL;
    private static final int[] FIRST_SETTINGS = {120, 40, 500, 8, 100, 0, 5};
    private static final int[] LAST_SETTINGS = {300, 200, 900, 20, 200, 1, 50};

    private static void dueEachDot(String what, HeadDots head, int number, int dots, int due) {
        for (int dot = 0; dot < 24; dot++) {
            int dueOfDot = (dots >> dot & 1) == 1 ? due : 0;
            Check.due(what + ": dot " + dot, dueOfDot, head.dot(dot, number));
        }
    }

    private static void somethingOfADot() {
        Check.holds("Promise 15", "Returns something of a dot.");
        HeadDots head = new HeadDots();
        head.line(1 << 23);
        int heat = 120;
        for (int i = 0; i < 13 + 5; i++) {
            heat -= heat / 40 + 1;
        }
        int[] first = {0, 0, 0, 0, 0, 120, 0};
        int[] last = {heat, 1, 0, 1, 0, 100, 0};
        for (int what = 0; what <= 6; what++) {
            Check.due("the first dot, " + what, first[what], head.dot(0, what));
            Check.due("the last dot, " + what, last[what], head.dot(23, what));
        }
        Check.namesNoBoundary("Promise 15", "Returns the number.");
    }

    private static void numbersOfDots() {
        Check.holds("Promise 15", "`dot`: 0 to 23");
        for (int dot = 0; dot < 24; dot++) {
            HeadDots head = new HeadDots();
            head.line(1 << dot);
            Check.due("dot " + dot, 1, head.dot(dot, 3));
            Check.due("dot " + (23 - dot), 0, head.dot(23 - dot, 3));
        }
    }

    private static void heatOfADot() {
        Check.holds("Promise 15", "`what`: 0: its heat");
        dueEachDot("cold", new HeadDots(), 0, 0, 0);
        for (int dot : new int[] {0, 11, 23}) {
            dueEachDot("dot " + dot + " is hot", Heads.withHeat(dot, 179), 0, 1 << dot, 179);
            dueEachDot("dot " + dot + " is 1 hot", Heads.withHeat(dot, 1), 0, 1 << dot, 1);
            dueEachDot("dot " + dot + " is cold", Heads.withHeat(dot, 0), 0, 1 << dot, 0);
        }
    }

    private static void lastLineOfADot() {
        Check.holds("Promise 15", "1: 1 if it printed in the last line, otherwise 0");
        HeadDots head = new HeadDots();
        dueEachDot("at first", head, 1, 0, 1);
        head.line(0x800001);
        dueEachDot("behind a line", head, 1, 0x800001, 1);
        head.paper(2);
        head.rest(999);
        dueEachDot("behind a paper and a rest", head, 1, 0x800001, 1);
        head.line(0);
        dueEachDot("behind a line of no dots", head, 1, 0, 1);
        head.lines(ALL, 20);
        dueEachDot("behind 20 lines", head, 1, ALL, 1);
    }

    private static void lineBeforeOfADot() {
        Check.holds("Promise 15", "2: 1 if it printed in the line before that, otherwise 0");
        HeadDots head = new HeadDots();
        dueEachDot("at first", head, 2, 0, 1);
        head.line(0x800001);
        dueEachDot("behind the first line", head, 2, 0, 1);
        head.line(0x00ff00);
        dueEachDot("behind the second line", head, 2, 0x800001, 1);
        head.line(0);
        dueEachDot("behind the third line", head, 2, 0x00ff00, 1);
        head.lines(0b11, 1);
        dueEachDot("behind the line of no dots", head, 2, 0, 1);
        head.lines(ALL, 2);
        dueEachDot("behind two lines at once", head, 2, ALL, 1);
    }

    private static void timesThatADotPrinted() {
        Check.holds("Promise 15", "3: how often it printed so far");
        HeadDots head = new HeadDots();
        dueEachDot("at first", head, 3, 0, 0);
        head.lines(0x800001, 20);
        dueEachDot("20 times", head, 3, 0x800001, 20);
        head.paper(1);
        head.line(0x800001);
        dueEachDot("on another paper, too", head, 3, 0x800001, 21);
        head.undo();
        dueEachDot("behind undo", head, 3, 0x800001, 20);
    }

    private static void timesThatADotWasFaint() {
        Check.holds("Promise 15", "4: how often it was faint so far");
        HeadDots head = new HeadDots();
        head.line(ALL);
        dueEachDot("dark", head, 4, 0, 0);
        head.set(0, 50);
        head.set(1, 5);
        head.set(6, 50);
        head.rest(999);
        head.lines(0x800001, 20);
        dueEachDot("20 times", head, 4, 0x800001, 20);
        head.paper(1);
        head.line(0x800001);
        dueEachDot("on another paper, too", head, 4, 0x800001, 21);
    }

    private static void pulseOfADot() {
        Check.holds("Promise 15", "5: its pulse, if it printed alone in the next line");
        Check.due("of a new head", 120, new HeadDots().dot(23, 5));
        HeadDots head = new HeadDots();
        head.line(0b110);
        head.line(0b011);
        int[] due = {100, 90, 110, 120};
        for (int dot = 0; dot < due.length; dot++) {
            Check.due("dot " + dot + ", without neighbours", due[dot], head.dot(dot, 5));
        }
        head.paper(1);
        head.set(0, 50);
        int[] onFine = {20, 20, 25, 35};
        for (int dot = 0; dot < due.length; dot++) {
            Check.due("dot " + dot + ", at least 20", onFine[dot], head.dot(dot, 5));
        }
        head.paper(2);
        head.set(0, 300);
        int[] onLabel = {305, 295, 315, 325};
        for (int dot = 0; dot < due.length; dot++) {
            Check.due("dot " + dot + ", on label", onLabel[dot], head.dot(dot, 5));
        }
    }

    private static void waitOfADot() {
        Check.holds("Promise 15", "6: how long it would wait for that, alone");
        Check.due("of a new head", 0, new HeadDots().dot(0, 6));
        for (int dot : new int[] {0, 12, 23}) {
            int[][] heatsAndWaits = {{0, 0}, {49, 0}, {50, 0}, {51, 1}, {52, 2}, {179, 129}};
            for (int[] row : heatsAndWaits) {
                HeadDots head = Heads.withHeat(dot, row[0]);
                head.set(0, 300);
                head.set(2, 330);
                Check.due("dot " + dot + ", " + row[0] + " hot", row[1], head.dot(dot, 6));
                Check.due("a cold dot", 0, head.dot((dot + 1) % 24, 6));
                Check.due("as the line waits", row[1], head.ifPrinted(1 << dot, 1));
                head.set(2, 331);
                Check.due("with a bound that is 1 more", Math.max(0, row[1] - 1), head.dot(dot, 6));
            }
        }
    }

    private static void noSuchDot() {
        Check.holds("Promise 15", "Throws `IndexOutOfBoundsException` if there is no such dot");
        for (int dot : new int[] {Integer.MIN_VALUE, -1, 24, 25, Integer.MAX_VALUE}) {
            for (int what = -1; what <= 7; what++) {
                int of = what;
                Check.dueRefused("dot(" + dot + ", " + what + ")", Check.INDEX, Heads::busy, h -> h.dot(dot, of));
            }
        }
    }

    private static void noSuchNumberOfADot() {
        Check.holds("Promise 15", "Throws `IllegalArgumentException` if what is not 0 to 6");
        for (int what : new int[] {Integer.MIN_VALUE, -1, 7, 8, Integer.MAX_VALUE}) {
            Check.dueRefused("dot(0, " + what + ")", Check.ARGUMENT, Heads::busy, h -> h.dot(0, what));
            Check.dueRefused("dot(23, " + what + ")", Check.ARGUMENT, Heads::busy, h -> h.dot(23, what));
        }
    }

    private static void aLineOfTheStrip() {
        Check.holds("Promise 16", "Returns a line of the strip.");
        HeadDots head = Heads.fullStrip();
        int[][] latest = {{1 << 23, 0, 1}, {0b100000000000000000000011, 0, 3}, {0, 0, 0}};
        for (int back = 1; back <= 3; back++) {
            for (int what = 0; what <= 2; what++) {
                Check.due("line " + back + ", " + what, latest[back - 1][what], head.kept(back, what));
            }
        }
        Check.due("all dots of the latest one", ALL, head.kept(0, 0) | head.kept(0, 1));
        Check.due("no dot is dark and faint", 0, head.kept(0, 0) & head.kept(0, 1));
        Check.due("24 parts", 24, head.kept(0, 2));
    }

    private static void latestLine() {
        Check.holds("Promise 16", "`back`: 0 for the latest line, and so on, to 11");
        HeadDots head = new HeadDots();
        for (int i = 0; i <= 12; i++) {
            head.line(1 << i);
        }
        for (int back = 0; back < 12; back++) {
            Check.due("line " + back, 1 << (12 - back), head.kept(back, 0));
        }
    }

    /** Dots that are dark, and others that are faint, since they printed in the line before. */
    private static HeadDots darkAndFaint() {
        HeadDots head = new HeadDots();
        head.line(0x800001);
        head.rest(999);
        head.set(0, 125);
        head.line(0x880011);
        return head;
    }

    private static void darkDotsOfALine() {
        Check.holds("Promise 16", "`what`: 0: its dots that are dark, as a number like for line()");
        Check.due("dark", 0x080010, darkAndFaint().kept(0, 0));
        Check.due("dark, in the line before", 0x800001, darkAndFaint().kept(1, 0));
        HeadDots head = new HeadDots();
        head.line(ALL);
        Check.due("all", ALL, head.kept(0, 0));
        head.line(0);
        Check.due("none", 0, head.kept(0, 0));
    }

    private static void faintDotsOfALine() {
        Check.holds("Promise 16", "1: its dots that are faint, likewise");
        Check.due("faint", 0x800001, darkAndFaint().kept(0, 1));
        Check.due("faint, in the line before", 0, darkAndFaint().kept(1, 1));
        HeadDots head = new HeadDots();
        head.set(0, 50);
        head.line(ALL);
        Check.due("all", ALL, head.kept(0, 1));
        head.line(0);
        Check.due("none", 0, head.kept(0, 1));
    }

    private static void partsOfALine() {
        Check.holds("Promise 16", "2: its parts");
        for (int dots = 0; dots <= 24; dots++) {
            HeadDots head = new HeadDots();
            head.line((1 << dots) - 1);
            Check.due(dots + " dots, by 12", dots == 0 ? 0 : dots <= 12 ? 1 : 2, head.kept(0, 2));
            head.set(4, 1);
            head.line((1 << dots) - 1);
            Check.due(dots + " dots, by 1", dots, head.kept(0, 2));
        }
    }

    private static void notSoManyLines() {
        Check.holds("Promise 16", "Returns the number; NONE if not so many lines are kept.");
        for (int lines = 0; lines <= 13; lines++) {
            HeadDots head = new HeadDots();
            for (int i = 0; i < lines; i++) {
                head.line(0);
            }
            for (int back = 0; back < 12; back++) {
                for (int what = 0; what <= 2; what++) {
                    Check.due("line " + back + " of " + lines + ", " + what, back < lines ? 0 : HeadDots.NONE,
                        head.kept(back, what));
                }
            }
        }
        HeadDots head = Heads.fullStrip();
        head.paper(0);
        Check.due("a new strip", HeadDots.NONE, head.kept(0, 0));
        head.undo();
        Check.due("the old strip", 1 << 23, head.kept(1, 0));
    }

    private static void wrongLineOfTheStrip() {
        Check.holds("Promise 16", "Throws `IllegalArgumentException` if back is out of range, or what is not 0 to 2");
        for (int back : new int[] {Integer.MIN_VALUE, -1, 12, 13, Integer.MAX_VALUE}) {
            Check.dueRefused("kept(" + back + ", 0)", Check.ARGUMENT, Heads::fullStrip, h -> h.kept(back, 0));
            Check.dueRefused("kept(" + back + ", 2) of a new head", Check.ARGUMENT, HeadDots::new,
                h -> h.kept(back, 2));
            Check.dueRefused("kept(" + back + ", 3)", Check.ARGUMENT, Heads::busy, h -> h.kept(back, 3));
        }
        for (int what : new int[] {Integer.MIN_VALUE, -1, 3, 4, Integer.MAX_VALUE}) {
            Check.dueRefused("kept(0, " + what + ")", Check.ARGUMENT, Heads::fullStrip, h -> h.kept(0, what));
            Check.dueRefused("kept(11, " + what + ") of a new head", Check.ARGUMENT, HeadDots::new,
                h -> h.kept(11, what));
        }
    }

    /** A count is this at first, this behind the call, and again as at first behind undo. */
    private static void dueCount(int what, int first, int then, Check.CallOn call) {
        HeadDots head = new HeadDots();
        Check.due("at first", first, head.count(what));
        call.answer(head);
        Check.due("behind the call", then, head.count(what));
        head.undo();
        Check.due("behind undo", first, head.count(what));
    }

    private static void countsSoFar() {
        Check.namesNoBoundary("Promise 17", "Returns a number.");
        Check.namesNoBoundary("Promise 17", "Returns the number.");
        Check.holds("Promise 17", "`what`: 0: the time so far");
        dueCount(0, 0, 999, h -> h.rest(999));
        dueCount(0, 0, 5, h -> h.line(0));
        dueCount(0, 0, 13 + 5, h -> h.line(1));
        dueCount(0, 0, 100, h -> h.lines(0, 20));
        dueCount(0, 0, 0, h -> h.paper(1));
        Check.holds("Promise 17", "1: lines so far");
        dueCount(1, 0, 1, h -> h.line(0));
        dueCount(1, 0, 20, h -> h.lines(1, 20));
        dueCount(1, 0, 0, h -> h.rest(1));
        Check.holds("Promise 17", "2: parts so far");
        dueCount(2, 0, 0, h -> h.line(0));
        dueCount(2, 0, 1, h -> h.line(1));
        dueCount(2, 0, 2, h -> h.line(ALL));
        dueCount(2, 0, 40, h -> h.lines(ALL, 20));
        Check.holds("Promise 17", "4: dots printed so far");
        dueCount(4, 0, 0, h -> h.line(0));
        dueCount(4, 0, 24, h -> h.line(ALL));
        dueCount(4, 0, 480, h -> h.lines(ALL, 20));
        Check.holds("Promise 17", "5: the same told dot by dot");
        dueCount(5, 0, 0, h -> h.line(0));
        dueCount(5, 0, 24, h -> h.line(ALL));
        dueCount(5, 0, 480, h -> h.lines(ALL, 20));
        dueCount(5, 0, 2, h -> h.line(0x800001));
        Check.holds("Promise 17", "6: faint ones of them");
        dueCount(6, 0, 0, h -> h.lines(1, 1));
        dueCount(6, 0, 24, h -> faintLine(h, ALL));
        dueCount(6, 0, 1, h -> faintLine(h, 1));
    }

    /** On label the 120 and 25 more of a cold dot are faint; paper and line are undone at once. */
    private static long faintLine(HeadDots head, int dots) {
        StringBuilder six = new StringBuilder(Integer.toHexString(dots));
        while (six.length() < 6) {
            six.insert(0, '0');
        }
        Check.type(head, "paper:label;line" + six);
        return head.print();
    }

    private static void waitsSoFar() {
        Check.holds("Promise 17", "3: the time of all waits so far");
        Check.due("at first", 0, new HeadDots().count(3));
        HeadDots head = Heads.withHeat(0, 60);
        head.set(0, 300);
        head.set(2, 330);
        head.line(1);
        Check.due("10 ms", 10, head.count(3));
        head.line(0);
        head.rest(999);
        head.line(2);
        Check.due("neither feed nor rest, nor a line without a wait", 10, head.count(3));
        head.undo();
        head.undo();
        head.undo();
        head.undo();
        Check.due("behind undo", 0, head.count(3));
    }

    private static void greatestHeats() {
        Check.holds("Promise 17", "7: the greatest heat of a dot now");
        Check.due("cold", 0, new HeadDots().count(7));
        for (int dot : new int[] {0, 12, 23}) {
            Check.due("dot " + dot, 100, Heads.withHeat(dot, 100).count(7));
            Check.due("dot " + dot + ", nearly cold", 1, Heads.withHeat(dot, 1).count(7));
        }
        Check.holds("Promise 17", "8: the greatest heat that a dot had so far");
        dueCount(8, 0, 0, h -> h.line(0));
        dueCount(8, 0, 120, h -> h.line(1 << 23));
        dueCount(8, 0, 115, h -> h.line(ALL));
        HeadDots head = Heads.withHeat(4, 100);
        Check.due("right behind the pulse", 199, head.count(8));
        head.rest(999);
        head.set(0, 50);
        head.line(1);
        Check.due("not of now alone", 199, head.count(8));
        head.set(0, 200);
        head.line(1 << 9);
        Check.due("1 more", 200, head.count(8));
    }

    private static void paperStripAndSettings() {
        Check.holds("Promise 17", "9: the paper");
        dueCount(9, 0, 0, h -> h.paper(0));
        dueCount(9, 0, 1, h -> h.paper(1));
        dueCount(9, 0, 2, h -> h.paper(2));
        Check.holds("Promise 17", "10: lines of the strip");
        dueCount(10, 0, 1, h -> h.line(0));
        dueCount(10, 0, 11, h -> h.lines(0, 11));
        dueCount(10, 0, 12, h -> h.lines(0, 12));
        dueCount(10, 0, 12, h -> h.lines(0, 13));
        dueCount(10, 0, 12, h -> h.lines(0, 20));
        HeadDots head = new HeadDots();
        head.lines(0, 3);
        head.paper(0);
        Check.due("of a new one", 0, head.count(10));
        Check.holds("Promise 17", "11 to 17: the settings 0 to 6");
        for (int setting = 0; setting <= 6; setting++) {
            int number = setting;
            dueCount(11 + setting, FIRST_SETTINGS[setting], LAST_SETTINGS[setting],
                h -> h.set(number, LAST_SETTINGS[number]));
        }
    }

    private static void savedStates() {
        Check.holds("Promise 17", "18: saved states");
        HeadDots head = new HeadDots();
        for (int calls = 0; calls <= 9; calls++) {
            Check.due("behind " + calls, Math.min(6, calls), head.count(18));
            head.rest(1);
        }
        for (int left = 5; left >= 0; left--) {
            head.undo();
            Check.due("behind undo", left, head.count(18));
        }
    }

    private static void noSuchCount() {
        Check.holds("Promise 17", "Throws `IllegalArgumentException` if what is not 0 to 18");
        for (int what : new int[] {Integer.MIN_VALUE, -1, 19, 20, Integer.MAX_VALUE}) {
            Check.dueRefused("count " + what, Check.ARGUMENT, Heads::busy, h -> h.count(what));
            Check.dueRefused("count " + what + " of a new head", Check.ARGUMENT, HeadDots::new, h -> h.count(what));
        }
    }

    public static void main(String[] args) {
        Check.runAll(
            LooksSentencesTest::somethingOfADot,
            LooksSentencesTest::numbersOfDots,
            LooksSentencesTest::heatOfADot,
            LooksSentencesTest::lastLineOfADot,
            LooksSentencesTest::lineBeforeOfADot,
            LooksSentencesTest::timesThatADotPrinted,
            LooksSentencesTest::timesThatADotWasFaint,
            LooksSentencesTest::pulseOfADot,
            LooksSentencesTest::waitOfADot,
            LooksSentencesTest::noSuchDot,
            LooksSentencesTest::noSuchNumberOfADot,
            LooksSentencesTest::aLineOfTheStrip,
            LooksSentencesTest::latestLine,
            LooksSentencesTest::darkDotsOfALine,
            LooksSentencesTest::faintDotsOfALine,
            LooksSentencesTest::partsOfALine,
            LooksSentencesTest::notSoManyLines,
            LooksSentencesTest::wrongLineOfTheStrip,
            LooksSentencesTest::countsSoFar,
            LooksSentencesTest::waitsSoFar,
            LooksSentencesTest::greatestHeats,
            LooksSentencesTest::paperStripAndSettings,
            LooksSentencesTest::savedStates,
            LooksSentencesTest::noSuchCount);
        Check.dueAllHeld("Promise 15", "Promise 16", "Promise 17");
        Check.end();
    }
}
