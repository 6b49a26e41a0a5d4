import java.math.BigInteger;
import java.util.ArrayList;
import java.util.List;

/** Promises 18 to 24: each sentence with its boundaries. */
public final class WouldBeSentencesTest {
    private static final int ALL = Heads.ALL;
    private static final int[] WRONG_DOTS = {Integer.MIN_VALUE, -1, ALL + 1, ALL + 2, Integer.MAX_VALUE};

    /** Dot 0 is this hot, and with its pulse of 280 must wait from 51 on; the others' pulse is 300. */
    private static HeadDots hotAtTheBound(int heat) {
        HeadDots head = Heads.withHeat(0, heat);
        head.set(0, 300);
        head.set(2, 330);
        return head;
    }

    private static void whatALineWouldBring() {
        Check.holds("Promise 18", "Tells what a line would bring now.");
        int[] lines = {0, 1, 1 << 23, 0x0f0f0f, 0x555555, ALL};
        for (int dots : lines) {
            HeadDots head = Heads.busy();
            int[] would = new int[5];
            for (int what = 0; what < 5; what++) {
                would[what] = head.ifPrinted(dots, what);
            }
            Check.dueSame("the look changes nothing", Heads.busy(), head);
            HeadDots then = Heads.busy();
            int[] before = {0, then.count(3), then.count(2), then.count(6)};
            Check.due("time of " + dots, then.line(dots), would[0]);
            Check.due("waits of " + dots, then.count(3) - before[1], would[1]);
            Check.due("parts of " + dots, then.count(2) - before[2], would[2]);
            Check.due("faint dots of " + dots, then.count(6) - before[3], would[3]);
        }
        Check.namesNoBoundary("Promise 18", "Returns the number.");
    }

    private static void dotsOfALine() {
        Check.holds("Promise 18", "`dots`: 0 to 16777215");
        Check.due("dots 0", 0, new HeadDots().ifPrinted(0, 2));
        Check.due("dots 16777215", 2, new HeadDots().ifPrinted(ALL, 2));
    }

    private static void timeOfALine() {
        Check.holds("Promise 18", "`what`: 0: the time that it would take, with the feed");
        Check.due("no dots", 5, new HeadDots().ifPrinted(0, 0));
        Check.due("one dot", 13 + 5, new HeadDots().ifPrinted(1, 0));
        Check.due("two parts", 12 + 12 + 5, new HeadDots().ifPrinted(ALL, 0));
        Check.due("a wait of 1", 1 + 29, hotAtTheBound(51).ifPrinted(1, 0));
        HeadDots head = new HeadDots();
        head.set(6, 0);
        Check.due("no dots and no feed", 0, head.ifPrinted(0, 0));
        head.set(6, 50);
        Check.due("the longest feed", 50, head.ifPrinted(0, 0));
    }

    private static void waitsOfALine() {
        Check.holds("Promise 18", "1: the time of its waits");
        Check.due("no dots", 0, hotAtTheBound(179).ifPrinted(0, 1));
        Check.due("a cold dot", 0, hotAtTheBound(179).ifPrinted(2, 1));
        int[][] heatsAndWaits = {{0, 0}, {50, 0}, {51, 1}, {179, 129}};
        for (int[] row : heatsAndWaits) {
            Check.due(row[0] + " hot", row[1], hotAtTheBound(row[0]).ifPrinted(1, 1));
            Check.due(row[0] + " hot, and a cold one", row[1], hotAtTheBound(row[0]).ifPrinted(5, 1));
        }
        HeadDots head = hotAtTheBound(60);
        head.line(1);
        Check.due("not those before", 0, head.ifPrinted(1 << 7, 1));
    }

    private static void partsOfALine() {
        Check.holds("Promise 18", "2: its parts");
        for (int dots = 0; dots <= 24; dots++) {
            HeadDots head = new HeadDots();
            Check.due(dots + " dots, by 12", dots == 0 ? 0 : dots <= 12 ? 1 : 2, head.ifPrinted((1 << dots) - 1, 2));
            head.set(4, 1);
            Check.due(dots + " dots, by 1", dots, head.ifPrinted((1 << dots) - 1, 2));
            head.line(ALL);
            Check.due("not those before", dots, head.ifPrinted((1 << dots) - 1, 2));
        }
    }

    private static void faintDotsOfALine() {
        Check.holds("Promise 18", "3: its faint dots");
        HeadDots head = new HeadDots();
        Check.due("no dots", 0, head.ifPrinted(0, 3));
        Check.due("110 is dark", 0, head.ifPrinted(ALL, 3));
        head.set(0, 119);
        Check.due("109 is faint, 114 at the ends is dark", 22, head.ifPrinted(ALL, 3));
        head.set(0, 50);
        Check.due("all", 24, head.ifPrinted(ALL, 3));
        head.line(ALL);
        Check.due("not those before", 0, head.ifPrinted(0, 3));
    }

    private static void greatestHeatOfALine() {
        Check.holds("Promise 18", "4: the greatest heat that any dot would have, from now on to its last pulse (that of"
            + " now too, also of dots that do not print)");
        Check.due("cold, no dots", 0, new HeadDots().ifPrinted(0, 4));
        Check.due("cold, one dot", 120, new HeadDots().ifPrinted(1 << 23, 4));
        Check.due("cold, all dots", 115, new HeadDots().ifPrinted(ALL, 4));
        for (int dot : new int[] {0, 23}) {
            HeadDots head = Heads.withHeat(dot, 179);
            Check.due("that of now, no dots", 179, head.ifPrinted(0, 4));
            Check.due("that of now, of a dot that does not print", 179, head.ifPrinted(1 << 9, 4));
            head.set(0, 179);
            Check.due("as hot as that of now", 179, head.ifPrinted(1 << 9, 4));
            head.set(0, 180);
            Check.due("1 more than that of now", 180, head.ifPrinted(1 << 9, 4));
            head.set(0, 50);
            Check.due("that of now and the pulse", 179 + 30, head.ifPrinted(1 << dot, 4));
            head.rest(79);
            Check.due("not that of all so far", 100, head.ifPrinted(1 << 9, 4));
        }
        Check.due("at the bound, behind a wait", 330, hotAtTheBound(51).ifPrinted(1, 4));
        HeadDots later = Heads.withHeat(20, 100);
        later.set(4, 1);
        Check.due("the last part is the hottest", 100 - 13 + 100, later.ifPrinted(1 | 1 << 20, 4));
        later.set(0, 50);
        Check.due("that of now is greater than that of each pulse", 100 - 6 + 30, later.ifPrinted(1 | 1 << 20, 4));
    }

    private static void wrongLine() {
        Check.holds("Promise 18", "Throws `IllegalArgumentException` if dots is out of range, or what is not 0 to 4");
        for (int dots : WRONG_DOTS) {
            for (int what = -1; what <= 5; what++) {
                int of = what;
                Check.dueRefused("ifPrinted(" + dots + ", " + what + ")", Check.ARGUMENT, Heads::busy,
                    h -> h.ifPrinted(dots, of));
            }
        }
        for (int what : new int[] {Integer.MIN_VALUE, -1, 5, 6, Integer.MAX_VALUE}) {
            Check.dueRefused("ifPrinted(0, " + what + ")", Check.ARGUMENT, Heads::busy, h -> h.ifPrinted(0, what));
            Check.dueRefused("ifPrinted(all, " + what + ")", Check.ARGUMENT, HeadDots::new,
                h -> h.ifPrinted(ALL, what));
        }
    }

    /** A cold head, by 2 dots at once, without a feed, behind a line: its dots take 11 ms, others 13. */
    private static HeadDots behind(int dots, int way) {
        HeadDots head = Heads.slowlyCooling(2);
        head.set(5, way);
        head.line(dots);
        head.rest(999);
        return head;
    }

    private static void findsTheBetterWay() {
        Check.holds("Promise 19", "Finds the better way to part a line.");
        for (int way = 0; way <= 1; way++) {
            Check.due("by turns is better", 1, behind(0b0010001, way).betterWay(0b1010101));
            Check.due("one behind the other is better", 0, behind(0b0000101, way).betterWay(0b1010101));
            HeadDots head = behind(0b0010001, way);
            head.betterWay(0b1010101);
            Check.dueSame("setting 5 is as it was", behind(0b0010001, way), head);
        }
    }

    private static void dotsOfTheBetterWay() {
        Check.holds("Promise 19", "`dots`: 0 to 16777215");
        for (int dots : new int[] {0, 1, 1 << 23, ALL - 1, ALL}) {
            Check.dueText("betterWay " + dots, "0", Check.outcome(() -> new HeadDots().betterWay(dots)));
        }
    }

    private static void lessTime() {
        Check.holds("Promise 19", "Returns the value of setting 5 with which it would take less time now; 0 if both"
            + " take as long.");
        for (int way = 0; way <= 1; way++) {
            Check.due("24 and 26 ms", 1, behind(0b0010001, way).betterWay(0b1010101));
            Check.due("26 and 24 ms", 0, behind(0b0000101, way).betterWay(0b1010101));
            Check.due("no dots", 0, behind(0b0010001, way).betterWay(0));
            Check.due("one part", 0, behind(0b0010001, way).betterWay(0b10001));
            Check.due("both as long", 0, behind(0, way).betterWay(0b1010101));
            Check.due("both as long, in other parts", 0, behind(ALL, way).betterWay(ALL));
            HeadDots head = behind(0b0010001, way);
            head.set(5, 0);
            Check.due("one behind the other", 26, head.ifPrinted(0b1010101, 0));
            head.set(5, 1);
            Check.due("by turns", 24, head.ifPrinted(0b1010101, 0));
        }
        waitsCountToo();
    }

    /** Hot dots that wait ahead of the first part have cooled ahead of the second one. */
    private static void waitsCountToo() {
        int seen = 0;
        for (int hot = 0; hot < 4; hot++) {
            for (int way = 0; way <= 1; way++) {
                HeadDots head = Heads.withHeat(2 * hot, 80);
                head.set(0, 300);
                head.set(2, 330);
                head.set(4, 16);
                head.set(5, 0);
                int behind = head.ifPrinted(0b1010101, 0);
                head.set(5, 1);
                int turns = head.ifPrinted(0b1010101, 0);
                head.set(5, way);
                int due = turns < behind ? 1 : 0;
                seen |= 1 << due;
                Check.due("dot " + 2 * hot + " is hot, setting 5 as " + way, due, head.betterWay(0b1010101));
            }
        }
        Check.due("both ways were better once", 3, seen);
    }

    private static void wrongLineOfTheBetterWay() {
        Check.holds("Promise 19", "Throws `IllegalArgumentException` if dots is out of range");
        for (int dots : WRONG_DOTS) {
            Check.dueRefused("betterWay " + dots, Check.ARGUMENT, Heads::busy, h -> h.betterWay(dots));
            Check.dueRefused("betterWay " + dots + " of a new head", Check.ARGUMENT, HeadDots::new,
                h -> h.betterWay(dots));
        }
    }

    private static void whenAllAreCool() {
        Check.holds("Promise 20", "Tells when all dots are cool.");
        for (int dot : new int[] {0, 12, 23}) {
            Check.due("dot " + dot + " of 100", 60, Heads.withHeat(dot, 100).coolIn(40));
        }
        HeadDots head = Heads.withHeat(23, 150);
        head.line(1);
        int most = head.count(7);
        Check.due("the hottest of two", 150 - 13, most);
        Check.due("time until it is cool", most - 7, head.coolIn(7));
        Check.due("no dot is hotter then", 7, head.rest(most - 7));
    }

    private static void heatsToCoolTo() {
        Check.holds("Promise 20", "`heat`: 0 to 900");
        Check.due("0", 179, Heads.withHeat(5, 179).coolIn(0));
        Check.due("900", 0, Heads.withHeat(5, 179).coolIn(900));
        HeadDots head = new HeadDots();
        head.set(0, 300);
        head.set(1, 200);
        head.set(2, 900);
        head.set(6, 0);
        head.lines(1, 20);
        int time = head.coolIn(0);
        Check.due("a very hot head is hot for long", 1, time > 300 ? 1 : 0);
        Check.due("1 left", 1, head.rest(time - 1));
        Check.due("1 more", 1, head.coolIn(0));
    }

    private static void timeUntilAllAreCool() {
        Check.holds("Promise 20", "Returns behind how many milliseconds no dot is hotter than that, 0 if so now.");
        Check.due("a cold head, 0", 0, new HeadDots().coolIn(0));
        Check.due("as hot as that", 0, Heads.withHeat(9, 100).coolIn(100));
        Check.due("less hot than that", 0, Heads.withHeat(9, 100).coolIn(101));
        Check.due("1 hotter than that", 1, Heads.withHeat(9, 100).coolIn(99));
        Check.due("1, to 0", 1, Heads.withHeat(9, 1).coolIn(0));
        int[] heats = {10, 7, 5, 3, 2, 1, 0};
        for (int heat = 0; heat <= 10; heat++) {
            int time = 0;
            while (heats[time] > heat) {
                time++;
            }
            HeadDots head = Heads.withHeat(9, 10);
            head.set(1, 5);
            Check.due("10, 7, 5, 3, 2, 1, 0: to " + heat, time, head.coolIn(heat));
        }
    }

    private static void wrongHeat() {
        Check.holds("Promise 20", "Throws `IllegalArgumentException` if heat is out of range");
        for (int heat : new int[] {Integer.MIN_VALUE, -1, 901, 902, Integer.MAX_VALUE}) {
            Check.dueRefused("coolIn " + heat, Check.ARGUMENT, Heads::busy, h -> h.coolIn(heat));
            Check.dueRefused("coolIn " + heat + " of a new head", Check.ARGUMENT, HeadDots::new,
                h -> h.coolIn(heat));
        }
    }

    private static void shortestDarkPulse() {
        Check.holds("Promise 21", "Finds the shortest pulse that is dark.");
        int[] due = {110, 105, 125};
        for (int paper = 0; paper < 3; paper++) {
            HeadDots head = new HeadDots();
            head.paper(paper);
            int least = head.darkFrom(7);
            Check.due("cold, on " + paper, due[paper], least);
            head.set(0, least);
            Check.due("it is dark", 0, head.ifPrinted(1 << 7, 3));
            head.set(0, least - 1);
            Check.due("1 less is faint", 1, head.ifPrinted(1 << 7, 3));
            Check.due("whatever setting 0 is", least, head.darkFrom(7));
        }
    }

    private static void dotsThatAreDark() {
        Check.holds("Promise 21", "`dot`: 0 to 23");
        for (int hot : new int[] {0, 23}) {
            HeadDots head = Heads.withHeat(hot, 40);
            for (int dot = 0; dot < 24; dot++) {
                Check.due("dot " + dot, dot == hot ? 110 - 40 + 20 : 110, head.darkFrom(dot));
            }
        }
    }

    /** The dot 0 printed in both of the last lines, and has this heat, on this paper. */
    private static HeadDots behindTwoLines(int paper, int heat) {
        HeadDots head = Heads.slowlyCooling(24);
        head.paper(paper);
        head.set(0, 140);
        head.line(1);
        head.rest(999);
        head.line(1);
        head.rest(head.count(7) - heat);
        return head;
    }

    private static void leastOfTheValues() {
        Check.holds("Promise 21", "Returns of the values 50 to 300 of setting 0 the least one, with which this dot,"
            + " printing alone now, would be dark; NONE if there is none.");
        int[][] heatsAndValues = {{0, 130}, {1, 129}, {79, 51}, {80, 50}, {81, 50}, {179, 50}};
        for (int[] row : heatsAndValues) {
            Check.due(row[0] + " hot", row[1], Heads.withHeat(0, row[0]).darkFrom(0));
        }
        int[][] papersHeatsAndValues = {
            {0, 10, 130}, {0, 88, 52}, {0, 89, 51}, {0, 90, 50}, {0, 91, 50},
            {1, 10, 125}, {1, 69, 66}, {1, 70, 50}, {1, 71, 50},
            {2, 10, 145}, {2, 104, 51}, {2, 105, 50},
        };
        for (int[] row : papersHeatsAndValues) {
            Check.due("on " + row[0] + ", behind two lines, " + row[1] + " hot", row[2],
                behindTwoLines(row[0], row[1]).darkFrom(0));
        }
        HeadDots cold = behindTwoLines(2, 1);
        cold.rest(999);
        Check.due("the greatest value that is ever needed", 155, cold.darkFrom(0));
        HeadDots neighbours = new HeadDots();
        neighbours.line(0b101);
        Check.due("alone: no neighbours", 110, neighbours.darkFrom(1));
        HeadDots hot = new HeadDots();
        hot.set(0, 300);
        hot.set(1, 200);
        hot.set(2, 900);
        hot.lines(1, 6);
        hot.set(2, 330);
        Check.due("it must wait first", 1, hot.count(7) > 330 ? 1 : 0);
        Check.due("a dot that must wait", 50, hot.darkFrom(0));
    }

    private static void noSuchDot() {
        Check.holds("Promise 21", "Throws `IndexOutOfBoundsException` if there is no such dot");
        for (int dot : new int[] {Integer.MIN_VALUE, -1, 24, 25, Integer.MAX_VALUE}) {
            Check.dueRefused("darkFrom " + dot, Check.INDEX, Heads::busy, h -> h.darkFrom(dot));
            Check.dueRefused("darkFrom " + dot + " of a new head", Check.INDEX, HeadDots::new, h -> h.darkFrom(dot));
        }
    }

    private static void shareOfDarkDots() {
        Check.holds("Promise 22", "Returns how much was dark.");
        HeadDots head = new HeadDots();
        head.line(1);
        Check.dueDouble("all", 1.0, head.darkness());
        head.rest(999);
        head.set(0, 50);
        head.line(2);
        Check.dueDouble("one of two", 0.5, head.darkness());
        head.paper(2);
        Check.dueDouble("also of an old strip", 0.5, head.darkness());
        Check.holds("Promise 22", "Returns the dots printed so far that were dark, as a double, divided by all printed"
            + " so far; 1.0 without any.");
        Check.dueDouble("a new head", 1.0, new HeadDots().darkness());
        HeadDots empty = new HeadDots();
        empty.lines(0, 20);
        empty.rest(5);
        Check.dueDouble("lines of no dots", 1.0, empty.darkness());
        empty.set(0, 50);
        empty.line(ALL);
        Check.dueDouble("no dark dot", 0.0, empty.darkness());
        empty.undo();
        Check.dueDouble("behind undo", 1.0, empty.darkness());
        HeadDots one = new HeadDots();
        one.set(0, 50);
        one.line(1);
        Check.dueDouble("one dot, that is faint", 0.0, one.darkness());
        for (int dots = 1; dots <= 8; dots++) {
            HeadDots some = new HeadDots();
            some.line(1 << 23);
            some.set(0, 50);
            some.line((1 << dots) - 1);
            Check.dueDouble("one of " + (dots + 1), 1.0 / (dots + 1), some.darkness());
        }
    }

    private static void meanHeats() {
        Check.holds("Promise 23", "Returns the mean heat of a dot.");
        HeadDots all = new HeadDots();
        all.set(4, 200);
        all.line(ALL);
        Check.dueFloat("all dots", (all.dot(0, 0) * 2 + all.dot(1, 0) * 22) / 24.0f, all.meanHeat());
        Check.holds("Promise 23", "Returns the heat of all dots together, as a float, divided by 24.");
        Check.dueFloat("a cold head", 0.0f, new HeadDots().meanHeat());
        for (int heat : new int[] {0, 1, 5, 23, 24, 25, 100, 179}) {
            for (int dot : new int[] {0, 23}) {
                Check.dueFloat("dot " + dot + " of heat " + heat, heat / 24.0f,
                    Heads.withHeat(dot, heat).meanHeat());
            }
        }
    }

    private static void addLooks(List<Long> values, Check.Maker maker) {
        HeadDots head = maker.make();
        for (int what = 0; what <= 18; what++) {
            values.add((long) head.count(what));
        }
        for (int dot = 0; dot < 24; dot++) {
            for (int what = 0; what <= 6; what++) {
                values.add((long) head.dot(dot, what));
            }
        }
        int lines = head.count(10);
        for (int back = 0; back < lines; back++) {
            HeadDots again = maker.make();
            for (int what = 0; what <= 2; what++) {
                values.add((long) again.kept(back, what));
            }
            String text = Check.told(again, back);
            for (int i = 0; i < text.length(); i++) {
                values.add((long) text.charAt(i));
            }
        }
    }

    private static void addWouldBe(List<Long> values, Check.Maker maker) {
        HeadDots head = maker.make();
        for (int dots : new int[] {16777215, 5592405}) {
            for (int what = 0; what <= 4; what++) {
                values.add((long) head.ifPrinted(dots, what));
            }
        }
        values.add((long) head.betterWay(65535));
        values.add((long) head.coolIn(50));
        values.add((long) head.darkFrom(0));
        values.add(Double.doubleToLongBits(head.darkness()));
        values.add((long) Float.floatToIntBits(head.meanHeat()));
    }

    /** The hash of the values, by numbers that have no end, and then cut to the 64 bits of a long. */
    private static long hash(List<Long> values) {
        BigInteger hash = BigInteger.valueOf(3833);
        for (long value : values) {
            hash = hash.multiply(BigInteger.valueOf(31)).add(BigInteger.valueOf(value));
        }
        return hash.longValue();
    }

    private static void dueDigest(String what, Check.Maker maker, String buffer) {
        List<Long> values = new ArrayList<>();
        addLooks(values, maker);
        addWouldBe(values, maker);
        values.add((long) buffer.length());
        for (int i = 0; i < buffer.length(); i++) {
            values.add((long) buffer.charAt(i));
        }
        HeadDots head = maker.make();
        Check.due("digest of " + what, hash(values), head.digest());
        Check.due("digest of " + what + " again", hash(values), head.digest());
    }

    private static void digests() {
        Check.holds("Promise 24", "Computes a hash of the whole state. The hash starts at 3833.");
        dueDigest("a new head", HeadDots::new, "");
        Check.holds("Promise 24", "For each value v of the following list, in order, the hash becomes 31 * hash + v, in"
            + " long arithmetic with overflow.");
        dueDigest("a busy head", Heads::busy, "line00ff0f;paper:f");
        Check.holds("Promise 24", "The values are: count(0) to count(18);");
        dueDigest("a head without saved states", Heads::busyWithoutSaved, "line00ff0f;paper:f");
        dueDigest("a head without a snapshot", Heads::withoutSnapshot, "empt");
        Check.holds("Promise 24", "for each dot its numbers 0 to 6;");
        dueDigest("a head with the last dot hot", () -> Heads.withHeat(23, 179), "");
        dueDigest("a head with a dot that waits", () -> hotAtTheBound(179), "");
    }

    private static HeadDots withLines(int lines) {
        HeadDots head = new HeadDots();
        head.set(4, 9 + lines);
        for (int i = 0; i < lines; i++) {
            head.line(0x01abcd << i % 8 & ALL);
        }
        return head;
    }

    private static void digestsOfTheStrip() {
        Check.holds("Promise 24", "for each line that is kept, from the latest one on, its numbers 0 to 2, and the"
            + " characters of it as a text;");
        for (int lines : new int[] {0, 1, 2, 11, 12, 13, 20}) {
            dueDigest(lines + " lines", () -> withLines(lines), "");
        }
        dueDigest("lines of 0, 1, 2 and 24 parts", Heads::fullStrip, "");
    }

    private static void digestsOfWhatWouldBe() {
        Check.holds("Promise 24", "ifPrinted of 16777215 and of 5592405, each with 0 to 4;");
        dueDigest("a hot head", () -> hot(100), "");
        dueDigest("a head with one dot at once", () -> hot(1), "");
        Check.holds("Promise 24", "betterWay of 65535;");
        for (int way = 0; way <= 1; way++) {
            int number = way;
            Check.due("by turns is better", 1, turnsAreBetter(way).betterWay(65535));
            dueDigest("a head with a better way", () -> turnsAreBetter(number), "");
        }
        Check.holds("Promise 24", "coolIn of 50;");
        for (int heat : new int[] {49, 50, 51, 179}) {
            dueDigest("a head of heat " + heat, () -> Heads.withHeat(3, heat), "");
        }
        Check.holds("Promise 24", "darkFrom of the dot 0;");
        for (int heat : new int[] {0, 79, 80, 179}) {
            dueDigest("a head with the dot 0 of heat " + heat, () -> Heads.withHeat(0, heat), "");
        }
    }

    private static HeadDots hot(int watts) {
        HeadDots head = new HeadDots();
        head.set(0, 300);
        head.set(1, 200);
        head.set(2, 400);
        head.set(4, watts);
        head.lines(0xff00ff, 2);
        return head;
    }

    /** By 8 dots at once; with 65535 the shorter pulses are each second dot's. */
    private static HeadDots turnsAreBetter(int way) {
        HeadDots head = Heads.slowlyCooling(8);
        head.set(5, way);
        head.line(0x005555);
        head.rest(999);
        return head;
    }

    private static HeadDots darkOnce(int faint) {
        HeadDots head = new HeadDots();
        head.line(1 << 23);
        head.set(0, 50);
        head.line((1 << faint) - 1);
        return head;
    }

    private static HeadDots allFaint() {
        HeadDots head = new HeadDots();
        head.set(0, 50);
        head.line(ALL);
        return head;
    }

    private static void digestsOfBits() {
        Check.holds("Promise 24", "the bits of darkness (as Double.doubleToLongBits) and of meanHeat (as"
            + " Float.floatToIntBits);");
        dueDigest("a head with darkness 0.0", WouldBeSentencesTest::allFaint, "");
        for (int faint = 0; faint <= 22; faint++) {
            int number = faint;
            dueDigest("one dark dot and " + faint, () -> darkOnce(number), "");
        }
        for (int time = 1; time <= 80; time++) {
            int number = time;
            dueDigest("a head that cools for " + time, () -> cooler(number), "");
        }
        for (int heat : new int[] {0, 1, 2, 3, 23, 24, 25, 47, 48, 49, 179}) {
            dueDigest("a mean of a heat of " + heat, () -> Heads.withHeat(11, heat), "");
        }
    }

    private static HeadDots cooler(int time) {
        HeadDots head = new HeadDots();
        head.line(0x555555);
        head.line(0xffff00);
        head.rest(time);
        return head;
    }

    private static void digestsOfTheBuffer() {
        Check.holds("Promise 24", "the length of the buffer and each of its character codes.");
        String sixty = "!~".repeat(30);
        for (int length : new int[] {0, 1, 2, 59, 60}) {
            String text = sixty.substring(0, length);
            dueDigest("a buffer of " + length, () -> Heads.typed(text), text);
        }
        HeadDots cleared = Heads.typed(sixty);
        cleared.clearBuffer();
        Check.due("a buffer that was cleared", new HeadDots().digest(), cleared.digest());
        Check.holds("Promise 24", "Returns the hash.");
        Check.due("two busy heads", Heads.busy().digest(), Heads.busy().digest());
    }

    public static void main(String[] args) {
        Check.runAll(
            WouldBeSentencesTest::whatALineWouldBring,
            WouldBeSentencesTest::dotsOfALine,
            WouldBeSentencesTest::timeOfALine,
            WouldBeSentencesTest::waitsOfALine,
            WouldBeSentencesTest::partsOfALine,
            WouldBeSentencesTest::faintDotsOfALine,
            WouldBeSentencesTest::greatestHeatOfALine,
            WouldBeSentencesTest::wrongLine,
            WouldBeSentencesTest::findsTheBetterWay,
            WouldBeSentencesTest::dotsOfTheBetterWay,
            WouldBeSentencesTest::lessTime,
            WouldBeSentencesTest::wrongLineOfTheBetterWay,
            WouldBeSentencesTest::whenAllAreCool,
            WouldBeSentencesTest::heatsToCoolTo,
            WouldBeSentencesTest::timeUntilAllAreCool,
            WouldBeSentencesTest::wrongHeat,
            WouldBeSentencesTest::shortestDarkPulse,
            WouldBeSentencesTest::dotsThatAreDark,
            WouldBeSentencesTest::leastOfTheValues,
            WouldBeSentencesTest::noSuchDot,
            WouldBeSentencesTest::shareOfDarkDots,
            WouldBeSentencesTest::meanHeats,
            WouldBeSentencesTest::digests,
            WouldBeSentencesTest::digestsOfTheStrip,
            WouldBeSentencesTest::digestsOfWhatWouldBe,
            WouldBeSentencesTest::digestsOfBits,
            WouldBeSentencesTest::digestsOfTheBuffer);
        Check.dueAllHeld("Promise 18", "Promise 19", "Promise 20", "Promise 21", "Promise 22", "Promise 23",
            "Promise 24");
        Check.end();
    }
}
