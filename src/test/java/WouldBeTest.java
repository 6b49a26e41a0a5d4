/** Promises 18 to 23: ifPrinted, betterWay, coolIn, darkFrom, darkness, meanHeat. */
public final class WouldBeTest {
    private static final int ALL = 16777215;

    /** A head that is hot, at a low bound, so that lines wait. */
    private static HeadDots hot() {
        HeadDots head = new HeadDots();
        head.set(0, 250);
        head.set(1, 100);
        head.set(2, 400);
        head.lines(0xff00ff, 3);
        return head;
    }

    private static void ifPrintedAsPrinted() {
        int[] lines = {0, 1, 0xff, 0xff00, ALL, 0x555555};
        for (int dots : lines) {
            HeadDots head = hot();
            long before = head.digest();
            int[] would = new int[5];
            for (int what = 0; what < 5; what++) {
                would[what] = head.ifPrinted(dots, what);
            }
            Check.due("the look changes nothing", before, head.digest());
            int waits = head.count(3);
            int parts = head.count(2);
            int faint = head.count(6);
            Check.due("time", head.line(dots), would[0]);
            Check.due("waits", head.count(3) - waits, would[1]);
            Check.due("parts", head.count(2) - parts, would[2]);
            Check.due("faint", head.count(6) - faint, would[3]);
        }
        Check.due("a line that waits", 1, hot().ifPrinted(ALL, 1) > 0 ? 1 : 0);
    }

    private static void greatestHeat() {
        HeadDots head = new HeadDots();
        Check.due("cold, no dots", 0, head.ifPrinted(0, 4));
        Check.due("cold, one dot", 120, head.ifPrinted(1, 4));
        Check.due("cold, two dots", 115, head.ifPrinted(3, 4));
        head.set(0, 300);
        head.line(1);
        head.set(0, 50);
        int now = head.count(7);
        Check.due("of now", now, head.ifPrinted(0, 4));
        Check.due("of now, of a dot that does not print", now, head.ifPrinted(2, 4));
        Check.due("with the pulse", now + 30, head.ifPrinted(1, 4));
        Check.due("not of all so far", 1, head.count(8) > now + 30 ? 1 : 0);
        HeadDots faint = new HeadDots();
        faint.set(0, 112);
        Check.due("faint dots", 2, faint.ifPrinted(0b10011, 3));
    }

    private static void betterWays() {
        HeadDots head = new HeadDots();
        Check.due("no dots", 0, head.betterWay(0));
        Check.due("one dot", 0, head.betterWay(1));
        head.set(5, 1);
        Check.due("both as long, by turns set", 0, head.betterWay(0xff));
        head.set(5, 0);
        int found = 0;
        HeadDots warm = hot();
        warm.set(6, 0);
        for (int i = 0; i < 12; i++) {
            warm.set(4, 16 + 8 * i);
            warm.line(0xfff << i);
            int dots = 0xabcdef ^ (i * 0x11111);
            warm.set(5, 0);
            int behind = warm.ifPrinted(dots, 0);
            warm.set(5, 1);
            int turns = warm.ifPrinted(dots, 0);
            int due = turns < behind ? 1 : 0;
            found |= 1 << due;
            Check.due("with by turns set", due, warm.betterWay(dots));
            warm.set(5, 0);
            Check.due("with behind one another set", due, warm.betterWay(dots));
        }
        Check.due("both ways were better once", 3, found);
        long before = warm.digest();
        warm.betterWay(ALL);
        Check.due("the look changes nothing", before, warm.digest());
    }

    private static void coolIns() {
        HeadDots head = new HeadDots();
        Check.due("cold", 0, head.coolIn(0));
        head.set(0, 300);
        head.line(0x800001);
        int now = head.count(7);
        Check.due("cool enough now", 0, head.coolIn(now));
        Check.due("a bit less", 1, head.coolIn(now - 1));
        int time = head.coolIn(20);
        Check.due("hot before", 1, head.rest(time - 1) > 20 ? 1 : 0);
        Check.due("cool then", 1, head.rest(1) <= 20 ? 1 : 0);
        Check.due("0 now", 0, head.coolIn(20));
        int all = head.coolIn(0);
        head.rest(all - 1);
        Check.due("1 left", 1, head.count(7));
        Check.due("1 more", 1, head.coolIn(0));
        Check.due("greatest heat that may be asked", 0, head.coolIn(900));
    }

    private static void darkFroms() {
        int[] dark = {110, 90, 150};
        int[] brings = {0, -15, 25};
        for (int paper = 0; paper < 3; paper++) {
            HeadDots head = new HeadDots();
            head.paper(paper);
            Check.due("cold, on " + paper, dark[paper] - brings[paper], head.darkFrom(23));
            head.line(1);
            int heat = head.dot(0, 0);
            int due = Math.max(50, dark[paper] - brings[paper] + 20 - heat);
            Check.due("warm, on " + paper, due, head.darkFrom(0));
            head.set(0, 299);
            Check.due("whatever the setting is", due, head.darkFrom(0));
        }
        HeadDots hot = hot();
        hot.set(2, 330);
        long before = hot.digest();
        Check.due("hot", 50, hot.darkFrom(0));
        Check.due("the look changes nothing", before, hot.digest());
    }

    private static void shares() {
        HeadDots head = new HeadDots();
        Check.dueDouble("darkness of none", 1.0, head.darkness());
        Check.dueFloat("mean of a cold head", 0.0f, head.meanHeat());
        head.set(0, 112);
        head.line(0b1011);
        Check.dueDouble("one of three", 1.0 / 3.0, head.darkness());
        int sum = 0;
        for (int dot = 0; dot < 24; dot++) {
            sum += head.dot(dot, 0);
        }
        Check.dueFloat("mean", (float) sum / 24, head.meanHeat());
        Check.due("warm", 1, sum > 0 ? 1 : 0);
        head.set(0, 50);
        head.rest(999);
        head.undo();
        head = new HeadDots();
        head.set(0, 50);
        head.line(ALL);
        Check.dueDouble("none of 24", 0.0, head.darkness());
        head = new HeadDots();
        head.line(1);
        Check.dueDouble("one of one", 1.0, head.darkness());
    }

    private static void wrongInputs() {
        HeadDots head = hot();
        int[] far = {Integer.MIN_VALUE, -1, Integer.MAX_VALUE};
        for (int number : far) {
            Check.dueThrow("ifPrinted", Check.ARGUMENT, head, () -> head.ifPrinted(number, 0));
            Check.dueThrow("ifPrinted's what", Check.ARGUMENT, head, () -> head.ifPrinted(0, number));
            Check.dueThrow("betterWay", Check.ARGUMENT, head, () -> head.betterWay(number));
            Check.dueThrow("coolIn", Check.ARGUMENT, head, () -> head.coolIn(number));
            Check.dueThrow("darkFrom", Check.INDEX, head, () -> head.darkFrom(number));
        }
        Check.dueThrow("ifPrinted", Check.ARGUMENT, head, () -> head.ifPrinted(ALL + 1, 0));
        Check.dueThrow("ifPrinted 5", Check.ARGUMENT, head, () -> head.ifPrinted(0, 5));
        Check.dueThrow("betterWay", Check.ARGUMENT, head, () -> head.betterWay(ALL + 1));
        Check.dueThrow("coolIn", Check.ARGUMENT, head, () -> head.coolIn(901));
        Check.dueThrow("darkFrom", Check.INDEX, head, () -> head.darkFrom(24));
    }

    public static void main(String[] args) {
        ifPrintedAsPrinted();
        greatestHeat();
        betterWays();
        coolIns();
        darkFroms();
        shares();
        wrongInputs();
        Check.end();
    }
}
