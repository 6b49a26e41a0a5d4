/** The document's "Terms" but for its texts, undo and exceptions: each sentence with its boundaries. */
public final class HeadSentencesTest {
    private static final int ALL = Heads.ALL;

    private static void divisionsAreRoundedDown() {
        Check.holds("Terms", "All numbers are integers, but for a share and a mean; divisions are rounded down.");
        HeadDots head = Heads.withHeat(0, 79);
        head.set(1, 40);
        Check.due("79 divided by 40", 79 - 1 - 1, head.rest(1));
        head = new HeadDots();
        head.set(3, 10);
        head.set(4, 39);
        Check.due("39 watts for dots of 10, 3 dots", 1, head.ifPrinted(0b111, 2));
        Check.due("39 watts for dots of 10, 4 dots", 2, head.ifPrinted(0b1111, 2));
        head = Heads.slowlyCooling(24);
        head.set(0, 119);
        Check.due("a pulse of 119 divided by 10", 11 + 1, head.line(1));
        Check.dueFloat("a mean is no integer", 1.0f / 24.0f, Heads.withHeat(7, 1).meanHeat());
        head = new HeadDots();
        head.set(0, 112);
        head.line(0b1011);
        Check.dueDouble("a share is no integer", 1.0 / 3.0, head.darkness());
        Check.namesNoBoundary("Terms", "Time is told in milliseconds.");
    }

    private static void twentyFourDots() {
        Check.holds("The head", "There are 24 dots, numbered from 0, each with heat, at first 0, and for each of"
            + " the last two lines whether it printed in it (at first not).");
        HeadDots head = new HeadDots();
        for (int dot = 0; dot < 24; dot++) {
            Check.due("heat of dot " + dot, 0, head.dot(dot, 0));
            Check.due("dot " + dot + " in the last line", 0, head.dot(dot, 1));
            Check.due("dot " + dot + " in the line before", 0, head.dot(dot, 2));
            Check.due("pulse of dot " + dot, 120, head.dot(dot, 5));
        }
        Check.dueRefused("dot -1", Check.INDEX, Heads::busy, h -> h.dot(-1, 0));
        Check.dueRefused("dot 24", Check.INDEX, Heads::busy, h -> h.dot(24, 0));
        int[] lines = {1 << 23, 0, 0};
        int[][] due = {{1, 0}, {0, 1}, {0, 0}};
        for (int i = 0; i < lines.length; i++) {
            head.line(lines[i]);
            Check.due("dot 23 in the last line, behind line " + i, due[i][0], head.dot(23, 1));
            Check.due("dot 23 in the line before, behind line " + i, due[i][1], head.dot(23, 2));
        }
    }

    private static void linesAsNumbers() {
        Check.holds("The head", "A line is told by a number, 0 to 16777215: the dot d prints, if its bit d is 1.");
        for (int only = 0; only < 24; only++) {
            HeadDots head = new HeadDots();
            head.line(1 << only);
            for (int dot = 0; dot < 24; dot++) {
                int due = dot == only ? 1 : 0;
                Check.due("dot " + dot + " of line " + (1 << only), due, head.dot(dot, 1));
                Check.due("dot " + dot + " so far", due, head.dot(dot, 3));
            }
        }
        HeadDots head = new HeadDots();
        head.line(0);
        Check.due("dots of line 0", 0, head.count(4));
        head.line(ALL);
        Check.due("dots of line 16777215", 24, head.count(4));
        Check.dueRefused("line -1", Check.ARGUMENT, Heads::busy, h -> h.line(-1));
        Check.dueRefused("line 16777216", Check.ARGUMENT, Heads::busy, h -> h.line(ALL + 1));
    }

    private static void cooling() {
        Check.holds("The head", "When a millisecond passes, the heat of each dot becomes less by its heat divided by"
            + " setting 1, and 1 more, but at least 0.");
        int[][] heatsAndSettings = {
            {0, 5, 0}, {1, 5, 0}, {2, 5, 1}, {4, 5, 3}, {5, 5, 3}, {6, 5, 4}, {9, 5, 7}, {10, 5, 7},
            {0, 200, 0}, {1, 200, 0}, {39, 40, 38}, {40, 40, 38}, {41, 40, 39}, {79, 40, 77},
            {80, 40, 77}, {179, 5, 143}, {179, 200, 178}, {179, 179, 177}, {179, 180, 178},
        };
        for (int[] row : heatsAndSettings) {
            HeadDots head = Heads.withHeat(3, row[0]);
            head.set(1, row[1]);
            Check.due("heat " + row[0] + ", setting 1 as " + row[1], row[2], head.rest(1));
            Check.due("dot 3 then", row[2], head.dot(3, 0));
            Check.due("a cold dot stays at 0", 0, head.dot(4, 0));
            Check.dueFloat("no dot is below 0", (float) row[2] / 24.0f, head.meanHeat());
        }
        HeadDots head = Heads.withHeat(23, 3);
        Check.due("3 behind 5 ms", 0, head.rest(5));
        Check.due("pulse and heat from 0 on", 100, head.ifPrinted(1 << 23, 4));
        head = new HeadDots();
        Check.due("cold behind 999 ms", 0, head.rest(999));
        Check.dueFloat("cold behind 999 ms", 0.0f, head.meanHeat());
    }

    private static void threePapers() {
        Check.holds("Paper", "There are three papers, \"plain\", \"fine\" and \"label\" (0 to 2; at first 0).");
        HeadDots head = new HeadDots();
        Check.due("at first", 0, head.count(9));
        String[] names = {"plain", "fine", "label"};
        for (int paper = 2; paper >= 0; paper--) {
            head.paper(paper);
            Check.due("paper", paper, head.count(9));
            HeadDots other = Heads.typed("paper:" + names[paper]);
            other.print();
            Check.due("paper " + names[paper], paper, other.count(9));
        }
        Check.dueRefused("paper -1", Check.ARGUMENT, Heads::busy, h -> h.paper(-1));
        Check.dueRefused("paper 3", Check.ARGUMENT, Heads::busy, h -> h.paper(3));
    }

    private static void papersBring() {
        Check.holds("Paper", "For a pulse they bring 0, -15 and 25 more.");
        int[] due = {120, 105, 145};
        for (int paper = 0; paper < 3; paper++) {
            HeadDots head = new HeadDots();
            head.paper(paper);
            Check.due("pulse on " + paper, due[paper], head.dot(0, 5));
            Check.due("heat right behind it on " + paper, due[paper], head.ifPrinted(1, 4));
        }
    }

    /** With this value of setting 0 a cold dot is just dark; so is one that is 20 hot and printed last. */
    private static void darkOrFaint() {
        Check.holds("Paper", "A dot that prints is dark, if its heat right behind its pulse is 110, 90 and 150 or"
            + " more, and faint otherwise.");
        int[] justDark = {110, 105, 125};
        for (int paper = 0; paper < 3; paper++) {
            for (int more = -1; more <= 1; more++) {
                HeadDots cold = new HeadDots();
                HeadDots warm = Heads.withHeat(5, 20);
                for (HeadDots head : new HeadDots[] {cold, warm}) {
                    String what = (head == cold ? "cold" : "20 hot") + " on " + paper + ", " + more + " more";
                    head.paper(paper);
                    head.set(0, justDark[paper] + more);
                    int faint = head.count(6);
                    head.line(1 << 5);
                    Check.due("dark, " + what, more < 0 ? 0 : 1 << 5, head.kept(0, 0));
                    Check.due("faint, " + what, more < 0 ? 1 << 5 : 0, head.kept(0, 1));
                    Check.due("faint so far, " + what, more < 0 ? 1 : 0, head.count(6) - faint);
                }
            }
        }
        HeadDots head = new HeadDots();
        head.line(0);
        Check.due("a dot that does not print is not faint", 0, head.kept(0, 1));
        Check.due("a dot that does not print is not dark", 0, head.kept(0, 0));
    }

    /** The pulses of a line that is printed on a cold head at once, each below 200; 0 for the others. */
    private static int[] pulses(HeadDots head, int dots) {
        head.rest(999);
        int time = head.line(dots);
        int[] pulses = new int[24];
        for (int dot = 0; dot < 24; dot++) {
            pulses[dot] = head.dot(dot, 1) == 0 ? 0 : head.dot(dot, 0) + time;
        }
        return pulses;
    }

    private static void duePulses(String what, HeadDots head, int dots, int[][] dotsAndPulses) {
        int[] pulses = pulses(head, dots);
        for (int[] row : dotsAndPulses) {
            Check.due(what + ": pulse of dot " + row[0], row[1], pulses[row[0]]);
        }
    }

    private static void pulseOfALine() {
        Check.holds("A line", "The pulse of a dot that prints in a line is setting 0, and what the paper brings,"
            + " less 20, if the dot printed in the last line, less 10, if it printed in the line before that,"
            + " less 5 for each neighbour (the dots with a number by 1 less or more) that prints in this line,");
        duePulses("alone", Heads.slowlyCooling(24), 1 << 9, new int[][] {{9, 120}});
        HeadDots head = Heads.slowlyCooling(24);
        head.line(0b1);
        duePulses("last line", head, 0b101, new int[][] {{0, 100}, {2, 120}});
        duePulses("both lines, and the last one", head, 0b101, new int[][] {{0, 90}, {2, 100}});
        head.line(0);
        duePulses("the line before", head, 0b1001, new int[][] {{0, 110}, {3, 120}});
        head.line(0);
        head.line(0);
        duePulses("three lines ago", head, 0b1001, new int[][] {{0, 120}, {3, 120}});
        head = Heads.slowlyCooling(24);
        head.line(0b10);
        duePulses("a neighbour of the last line", head, 0b1, new int[][] {{0, 120}});
        neighbours();
        neighboursInOtherParts();
    }

    private static void neighbours() {
        duePulses("three dots", Heads.slowlyCooling(24), 0b111, new int[][] {{0, 115}, {1, 110}, {2, 115}});
        duePulses("both ends are no neighbours", Heads.slowlyCooling(24), 1 << 23 | 1,
            new int[][] {{0, 120}, {23, 120}});
        duePulses("two and the other end", Heads.slowlyCooling(24), 1 << 23 | 0b11,
            new int[][] {{0, 115}, {1, 115}, {23, 120}});
        duePulses("the last two and the other end", Heads.slowlyCooling(24), 3 << 22 | 1,
            new int[][] {{0, 120}, {22, 115}, {23, 115}});
        int[][] all = new int[24][];
        for (int dot = 0; dot < 24; dot++) {
            all[dot] = new int[] {dot, dot == 0 || dot == 23 ? 115 : 110};
        }
        duePulses("all", Heads.slowlyCooling(24), ALL, all);
    }

    /** 115 takes 12 ms; alone 120 would take 13. */
    private static void neighboursInOtherParts() {
        for (int way = 0; way <= 1; way++) {
            HeadDots head = Heads.slowlyCooling(1);
            head.set(5, way);
            Check.due("neighbours in two parts", 24, head.line(0b11));
            Check.due("heat of the first part", 115 - 24, head.dot(0, 0));
            Check.due("heat of the second part", 115 - 12, head.dot(1, 0));
        }
    }

    private static HeadDots onFine(int setting, int... lines) {
        HeadDots head = Heads.slowlyCooling(24);
        head.set(0, setting);
        head.paper(1);
        for (int dots : lines) {
            head.line(dots);
        }
        return head;
    }

    private static void shortestPulse() {
        Check.holds("A line", "together, but at least 20.");
        Check.due("50 - 15", 35, onFine(50).dot(0, 5));
        Check.due("50 - 15 - 20", 20, onFine(50, 1).dot(0, 5));
        Check.due("54 - 15 - 20", 20, onFine(54, 1).dot(0, 5));
        Check.due("55 - 15 - 20", 20, onFine(55, 1).dot(0, 5));
        Check.due("56 - 15 - 20", 21, onFine(56, 1).dot(0, 5));
        Check.due("50 - 15 - 10", 25, onFine(50, 1, 0).dot(0, 5));
        Check.due("66 - 15 - 20 - 10", 21, onFine(66, 1, 1).dot(0, 5));
        Check.due("50 - 15 - 20 - 10", 20, onFine(50, 1, 1).dot(0, 5));
        duePulses("50 - 15 - 10 - 5", onFine(50, 1, 0), 0b11, new int[][] {{0, 20}, {1, 30}});
        duePulses("51 - 15 - 10 - 5", onFine(51, 1, 0), 0b11, new int[][] {{0, 21}, {1, 31}});
        duePulses("50 - 15 - 10 - 5 - 5", onFine(50, 2, 0), 0b111, new int[][] {{0, 30}, {1, 20}, {2, 30}});
        duePulses("50 - 15 - 20 - 10 - 5 - 5", onFine(50, ALL, ALL), ALL,
            new int[][] {{0, 20}, {1, 20}, {11, 20}, {22, 20}, {23, 20}});
    }

    private static void dotsAtOnce() {
        Check.holds("A line", "So many dots can print at once: setting 4 divided by setting 3, but at least 1.");
        int[][] wattsAndParts = {
            {20, 1, 24}, {20, 19, 24}, {20, 20, 24}, {20, 39, 24}, {20, 40, 12}, {20, 59, 12}, {20, 200, 3},
            {1, 1, 24}, {1, 2, 12}, {1, 23, 2}, {1, 24, 1}, {1, 200, 1}, {8, 100, 2}, {8, 95, 3}, {8, 96, 2},
        };
        for (int[] row : wattsAndParts) {
            HeadDots head = new HeadDots();
            head.set(3, row[0]);
            head.set(4, row[1]);
            Check.due(row[1] + " watts for dots of " + row[0], row[2], head.ifPrinted(ALL, 2));
            head.line(ALL);
            Check.due(row[1] + " watts for dots of " + row[0] + ", printed", row[2], head.kept(0, 2));
        }
    }

    private static void partsOfALine() {
        Check.holds("A line", "A line of no dots has no part; otherwise it has as many parts as its dots divided by"
            + " that many, rounded up.");
        int[][] dotsAndParts = {
            {0, 0}, {1, 1}, {4, 1}, {5, 1}, {6, 2}, {9, 2}, {10, 2}, {11, 3}, {20, 4}, {21, 5}, {24, 5},
        };
        for (int way = 0; way <= 1; way++) {
            for (int[] row : dotsAndParts) {
                HeadDots head = Heads.slowlyCooling(5);
                head.set(5, way);
                int dots = (1 << row[0]) - 1;
                Check.due(row[0] + " dots, by 5", row[1], head.ifPrinted(dots, 2));
                head.line(dots);
                Check.due(row[0] + " dots, by 5, kept", row[1], head.kept(0, 2));
                Check.due(row[0] + " dots, by 5, so far", row[1], head.count(2));
                Check.due(row[0] + " dots, by 5, told", 24 + Math.max(0, row[1] - 1),
                    Check.told(head, 0).length());
            }
        }
    }

    /**
     * The dots, of which no two are neighbours, print in these parts. Each part takes 13 ms; a dot is
     * so much less hot than its pulse of 120 as time has passed since its part began.
     */
    private static void dueParts(int way, int atOnce, int dots, int... due) {
        HeadDots head = Heads.slowlyCooling(atOnce);
        head.set(5, way);
        head.line(dots);
        int parts = head.kept(0, 2);
        int place = 0;
        for (int dot = 0; dot < 24; dot++) {
            boolean prints = (dots >> dot & 1) == 1;
            int heat = prints ? 120 - 13 * (parts - due[place]) : 0;
            Check.due("setting 5 as " + way + ", by " + atOnce + ", line " + dots + ": heat of dot " + dot,
                heat, head.dot(dot, 0));
            place += prints ? 1 : 0;
        }
    }

    private static void partedInTwoWays() {
        Check.holds("A line", "With setting 5 as 0 the dots of the line, from the lowest on, go into the parts one"
            + " behind the other, each with as many as can print at once (the last part with what is left);"
            + " with 1 they go by turns: the first dot to the part 0, the second one to the part 1, and so on,"
            + " and around.");
        int even = 0b010101010101010101010101;
        int odd = 0b101010101010101010101010;
        dueParts(0, 5, even, 0, 0, 0, 0, 0, 1, 1, 1, 1, 1, 2, 2);
        dueParts(1, 5, even, 0, 1, 2, 0, 1, 2, 0, 1, 2, 0, 1, 2);
        dueParts(0, 6, odd, 0, 0, 0, 0, 0, 0, 1, 1, 1, 1, 1, 1);
        dueParts(1, 6, odd, 0, 1, 0, 1, 0, 1, 0, 1, 0, 1, 0, 1);
        dueParts(0, 11, odd, 0, 0, 0, 0, 0, 0, 0, 0, 0, 0, 0, 1);
        dueParts(1, 11, odd, 0, 1, 0, 1, 0, 1, 0, 1, 0, 1, 0, 1);
        int four = 1 | 1 << 3 | 1 << 12 | 1 << 23;
        dueParts(0, 3, four, 0, 0, 0, 1);
        dueParts(1, 3, four, 0, 1, 0, 1);
        dueParts(0, 2, four, 0, 0, 1, 1);
        dueParts(1, 2, four, 0, 1, 0, 1);
        for (int way = 0; way <= 1; way++) {
            dueParts(way, 12, odd, new int[12]);
            dueParts(way, 24, even, new int[12]);
            dueParts(way, 4, four, 0, 0, 0, 0);
            dueParts(way, 1, 1 << 23, 0);
        }
        int seven = 0b1010101010101;
        dueParts(0, 3, seven, 0, 0, 0, 1, 1, 1, 2);
        dueParts(1, 3, seven, 0, 1, 2, 0, 1, 2, 0);
    }

    private static void partsInOrder() {
        Check.holds("A line", "The parts are printed in order.");
        for (int way = 0; way <= 1; way++) {
            dueParts(way, 1, 1 | 1 << 2 | 1 << 11 | 1 << 23, 0, 1, 2, 3);
        }
        dueParts(1, 2, 0b10101, 0, 1, 0);
        dueParts(0, 2, 0b10101, 0, 0, 1);
    }

    /** The dot's pulse for setting 0 as 300 is 280, since it printed last. */
    private static HeadDots hotFor300(int dot, int heat, int bound) {
        HeadDots head = Heads.withHeat(dot, heat);
        head.set(0, 300);
        head.set(2, bound);
        return head;
    }

    private static void waitsAheadOfAPart() {
        Check.holds("A line", "until for each of its dots its heat and its pulse, together, are at most setting 2;");
        int[][] heatsBoundsAndWaits = {
            {0, 330, 0}, {49, 330, 0}, {50, 330, 0}, {51, 330, 1}, {52, 330, 2}, {179, 330, 129},
            {51, 331, 0}, {52, 331, 1}, {179, 458, 1}, {179, 459, 0}, {179, 900, 0},
        };
        for (int[] row : heatsBoundsAndWaits) {
            HeadDots head = hotFor300(6, row[0], row[1]);
            String what = "heat " + row[0] + ", bound " + row[1];
            Check.due(what + ": dot 6", row[2], head.dot(6, 6));
            Check.due(what + ": the line's waits", row[2], head.ifPrinted(1 << 6, 1));
            Check.due(what + ": the line's time", row[2] + 29, head.line(1 << 6));
            Check.due(what + ": waits so far", row[2], head.count(3));
            Check.due(what + ": the hottest", Math.max(199, Math.min(row[0] + 280, row[1])), head.count(8));
        }
        Check.due("a hot dot that does not print", 31, hotFor300(6, 179, 330).line(1 << 2));
        Check.due("a line of no dots", 0, hotFor300(6, 179, 330).line(0));
        Check.due("the longer wait of two dots, the second one's", 50 + 30, twoHotDots(2, 6).line(1 << 2 | 1 << 6));
        Check.due("the longer wait of two dots, the first one's", 50 + 30, twoHotDots(6, 2).line(1 << 2 | 1 << 6));
        Check.due("the second dot of a part", 1 + 31, hotFor300(6, 51, 330).line(1 << 2 | 1 << 6));
        Check.due("the first dot of a part", 1 + 31, hotFor300(2, 51, 330).line(1 << 2 | 1 << 6));
    }

    /** One dot has a heat of 70 and a pulse of 290, the other one 100 and 280: waits of 30 and 50. */
    private static HeadDots twoHotDots(int less, int more) {
        HeadDots head = Heads.slowlyCooling(24);
        head.set(0, 199);
        head.line(1 << less);
        head.rest(10);
        head.line(1 << more);
        head.rest(79);
        head.set(0, 300);
        head.set(2, 330);
        Check.due("the shorter wait", 30, head.dot(less, 6));
        Check.due("the longer wait", 50, head.dot(more, 6));
        return head;
    }

    private static void waitsOfLaterParts() {
        Check.holds("A line", "Ahead of each part time passes (this is a wait),");
        int[][] dotsHeatsAndWaits = {{2, 51, 1}, {6, 51, 0}, {6, 81, 0}, {6, 82, 1}, {2, 60, 10}, {6, 60, 0}};
        for (int[] row : dotsHeatsAndWaits) {
            HeadDots head = hotFor300(row[0], row[1], 330);
            head.set(4, 1);
            head.line(1 << 2 | 1 << 6);
            Check.due("dot " + row[0] + " of heat " + row[1] + ", two parts", row[2], head.count(3));
            head.line(0);
            head.rest(5);
            Check.due("neither the feed nor a rest is a wait", row[2], head.count(3));
        }
        Check.due("no wait at first", 0, new HeadDots().count(3));
    }

    private static void hotterByThePulse() {
        Check.holds("A line", "then each of its dots becomes hotter by its pulse, and is dark or faint by its heat;");
        HeadDots head = Heads.withHeat(6, 20);
        head.set(0, 110);
        Check.due("time", 12, head.line(1 << 6 | 1 << 8));
        Check.due("dot 6", 20 + 90 - 12, head.dot(6, 0));
        Check.due("dot 8", 110 - 12, head.dot(8, 0));
        Check.due("a dot that does not print", 0, head.dot(7, 0));
        Check.due("both are dark", 1 << 6 | 1 << 8, head.kept(0, 0));
        head = Heads.withHeat(6, 150);
        head.set(0, 50);
        head.line(1 << 2);
        Check.due("a hot dot that does not print is none of the line", 0, head.kept(0, 0));
        Check.due("the cold one that prints is faint", 1 << 2, head.kept(0, 1));
        head = Heads.slowlyCooling(1);
        head.set(0, 110);
        head.line(0b101);
        Check.due("each by its own part, not by the heat at the end", 0b101, head.kept(0, 0));
    }

    private static void timeOfAPart() {
        Check.holds("A line", "then so much time passes as the longest pulse of the part divided by 10, and 1 more.");
        int[][] pulsesAndTimes = {
            {50, 6}, {59, 6}, {60, 7}, {99, 10}, {100, 11}, {109, 11}, {110, 12}, {119, 12}, {120, 13}, {300, 31},
        };
        for (int[] row : pulsesAndTimes) {
            HeadDots head = Heads.slowlyCooling(24);
            head.set(0, row[0]);
            Check.due("time of a pulse of " + row[0], row[1], head.line(1 << 23));
        }
        Check.due("time of a pulse of 20", 3, onFine(50, 1).line(1));
        Check.due("100 and 120, one part", 13, coldBehind(24, 1).line(1 | 1 << 5));
        Check.due("120 and 100, one part", 13, coldBehind(24, 1 << 5).line(1 | 1 << 5));
        Check.due("100 and 120, two parts", 11 + 13, coldBehind(1, 1).line(1 | 1 << 5));
        Check.due("120 and 100, two parts", 13 + 11, coldBehind(1, 1 << 5).line(1 | 1 << 5));
    }

    private static HeadDots coldBehind(int atOnce, int dots) {
        HeadDots head = Heads.slowlyCooling(atOnce);
        head.line(dots);
        head.rest(999);
        return head;
    }

    private static void feeds() {
        Check.holds("A line", "Behind a line (also one of no dots) setting 6 milliseconds pass for the feed.");
        int[] feeds = {0, 1, 5, 50};
        for (int feed : feeds) {
            HeadDots head = Heads.withHeat(3, 100);
            head.set(6, feed);
            int before = head.count(0);
            Check.due("a line of no dots with feed " + feed, feed, head.line(0));
            Check.due("the time so far", before + feed, head.count(0));
            Check.due("a dot is cooler behind it", 100 - feed, head.dot(3, 0));
            Check.due("it is no wait", 0, head.count(3));
            Check.due("a line of one dot with feed " + feed, 13 + feed, head.line(1));
            Check.due("the dot is cooler behind it", 120 - 13 - feed, head.dot(0, 0));
            Check.due("twenty lines of no dots", 0, head.lines(0, 20));
            Check.due("the time of all", before + 22 * feed + 13, head.count(0));
        }
        Check.due("the feed at first", 5, new HeadDots().line(0));
    }

    /** The longest pulse is 325: setting 0 as 300, on label, without lines before. */
    private static void leastBound() {
        Check.holds("A line", "The bound (setting 2) is at least 330, so that a wait ends for each pulse.");
        Check.dueRefused("set(2, 329)", Check.ARGUMENT, Heads::busy, h -> h.set(2, 329));
        HeadDots head = Heads.slowlyCooling(24);
        head.set(2, 330);
        head.set(0, 300);
        head.paper(2);
        Check.due("the first line", 33, head.line(1));
        head.lines(0, 2);
        int heat = 325;
        for (int i = 0; i < 33; i++) {
            heat -= heat / 200 + 1;
        }
        int wait = 0;
        for (int left = heat; left > 5; left -= left / 200 + 1) {
            wait++;
        }
        Check.due("the heat", heat, head.dot(0, 0));
        Check.due("the longest pulse", 325, head.dot(0, 5));
        Check.due("the wait ends", wait, head.dot(0, 6));
        Check.due("the line", wait + 33, head.line(1));
        Check.due("the hottest", 330, head.count(8));
    }

    private static HeadDots linesOfOneDot(int lines) {
        HeadDots head = new HeadDots();
        for (int i = 0; i < lines; i++) {
            head.line(1 << i);
        }
        return head;
    }

    private static void latestTwelveLines() {
        Check.holds("The strip", "The latest 12 lines are kept: for each dot whether it was dark, faint, or did not"
            + " print.");
        for (int lines = 0; lines <= 14; lines++) {
            HeadDots head = linesOfOneDot(lines);
            Check.due("lines of the strip, of " + lines, Math.min(12, lines), head.count(10));
            for (int back = 0; back < 12; back++) {
                int due = back < lines ? 1 << (lines - 1 - back) : HeadDots.NONE;
                Check.due("line " + back + " of " + lines, due, head.kept(back, 0));
                Check.due("the dot of line " + back + " of " + lines, back < lines ? '#' : HeadDots.NONE,
                    head.told(back, Math.max(0, lines - 1 - back)));
            }
        }
        HeadDots head = linesOfOneDot(13);
        head.lines(0b11, 20);
        Check.due("20 more", 12, head.count(10));
        Check.due("the oldest one", 0b11, head.kept(11, 0));
        head.undo();
        Check.due("the oldest one of the old strip", 0b10, head.kept(11, 0));
        head = new HeadDots();
        head.set(0, 112);
        head.line(0b100011);
        Check.due("dark", 0b100000, head.kept(0, 0));
        Check.due("faint", 0b11, head.kept(0, 1));
    }

    private static void linesAsTexts() {
        Check.holds("The strip", "A line is told as a text: \"#\" for a dark dot, \"+\" for a faint one, \".\" for"
            + " none, from the dot 0 on; and as many further parts as it had behind the first one, each as"
            + " \"|\".");
        HeadDots head = new HeadDots();
        head.set(0, 112);
        head.set(3, 20);
        head.set(4, 20);
        head.line(0);
        Check.dueText("no part", "........................", Check.told(head, 0));
        head.line(1);
        Check.dueText("one part", "#.......................", Check.told(head, 0));
        head.line(1 << 23);
        Check.dueText("one part, the last dot", ".......................#", Check.told(head, 0));
        head.rest(999);
        head.line(0b1000110000);
        Check.dueText("three parts", "....++...#..............||", Check.told(head, 0));
        Check.dueText("the line before", ".......................#", Check.told(head, 1));
        head.rest(999);
        head.line(ALL);
        Check.dueText("24 parts", "++++++++++++++++++++++++|||||||||||||||||||||||", Check.told(head, 0));
        head.set(4, 40);
        head.line(0b11);
        Check.due("two dots, one part: beyond the text", HeadDots.NONE, head.told(0, 24));
        head.line(0b111);
        Check.due("three dots, two parts", '|', head.told(0, 24));
        Check.due("three dots, two parts: beyond the text", HeadDots.NONE, head.told(0, 25));
    }

    private static void setting(String quote, int setting, int least, int most, int first) {
        Check.holds("Settings", quote);
        HeadDots head = new HeadDots();
        Check.due("at first", first, head.count(11 + setting));
        Check.due("the least one", first, head.set(setting, least));
        Check.due("the least one then", least, head.count(11 + setting));
        Check.due("the greatest one", least, head.set(setting, most));
        Check.due("the greatest one then", most, head.count(11 + setting));
        for (int other = 0; other <= 6; other++) {
            int[] firsts = {120, 40, 500, 8, 100, 0, 5};
            Check.due("setting " + other, other == setting ? most : firsts[other], head.count(11 + other));
        }
        for (int value : new int[] {least - 1, most + 1, Integer.MIN_VALUE, Integer.MAX_VALUE, -1}) {
            Check.dueRefused("set(" + setting + ", " + value + ")", Check.ARGUMENT, Heads::busy,
                h -> h.set(setting, value));
        }
    }

    private static void settings() {
        setting("0: 50 to 300, at first 120", 0, 50, 300, 120);
        setting("1: 5 to 200, at first 40", 1, 5, 200, 40);
        setting("2: 330 to 900, at first 500", 2, 330, 900, 500);
        setting("3: watts of a dot, 1 to 20, at first 8", 3, 1, 20, 8);
        setting("4: watts of the supply, 1 to 200, at first 100", 4, 1, 200, 100);
        setting("5: 0 or 1, at first 0", 5, 0, 1, 0);
        setting("6: 0 to 50, at first 5", 6, 0, 50, 5);
    }

    public static void main(String[] args) {
        Check.runAll(
            HeadSentencesTest::divisionsAreRoundedDown,
            HeadSentencesTest::twentyFourDots,
            HeadSentencesTest::linesAsNumbers,
            HeadSentencesTest::cooling,
            HeadSentencesTest::threePapers,
            HeadSentencesTest::papersBring,
            HeadSentencesTest::darkOrFaint,
            HeadSentencesTest::pulseOfALine,
            HeadSentencesTest::shortestPulse,
            HeadSentencesTest::dotsAtOnce,
            HeadSentencesTest::partsOfALine,
            HeadSentencesTest::partedInTwoWays,
            HeadSentencesTest::partsInOrder,
            HeadSentencesTest::waitsAheadOfAPart,
            HeadSentencesTest::waitsOfLaterParts,
            HeadSentencesTest::hotterByThePulse,
            HeadSentencesTest::timeOfAPart,
            HeadSentencesTest::feeds,
            HeadSentencesTest::leastBound,
            HeadSentencesTest::latestTwelveLines,
            HeadSentencesTest::linesAsTexts,
            HeadSentencesTest::settings);
        Check.dueAllHeld("Terms", "The head", "Paper", "A line", "The strip", "Settings");
        Check.end();
    }
}
